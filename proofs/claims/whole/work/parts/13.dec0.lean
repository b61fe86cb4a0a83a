theorem dX0_init_0 : decode cX0_init 0 = .ok (.aload_n 0, 1) := by decide +kernel
theorem dX0_init_1 : decode cX0_init 1 = .ok (.invokespecial 3, 3) := by decide +kernel
theorem dX0_init_4 : decode cX0_init 4 = .ok (.aload_n 0, 1) := by decide +kernel
theorem dX0_init_5 : decode cX0_init 5 = .ok (.bipush 20, 2) := by decide +kernel
theorem dX0_init_7 : decode cX0_init 7 = .ok (.newarray .int, 2) := by decide +kernel
theorem dX0_init_9 : decode cX0_init 9 = .ok (.putfield 11, 3) := by decide +kernel
theorem dX0_init_12 : decode cX0_init 12 = .ok (.aload_n 0, 1) := by decide +kernel
theorem dX0_init_13 : decode cX0_init 13 = .ok (.bipush 20, 2) := by decide +kernel
theorem dX0_init_15 : decode cX0_init 15 = .ok (.newarray .int, 2) := by decide +kernel
theorem dX0_init_17 : decode cX0_init 17 = .ok (.putfield 15, 3) := by decide +kernel
theorem dX0_init_20 : decode cX0_init 20 = .ok (.aload_n 0, 1) := by decide +kernel
theorem dX0_init_21 : decode cX0_init 21 = .ok (.bipush 20, 2) := by decide +kernel
theorem dX0_init_23 : decode cX0_init 23 = .ok (.newarray .int, 2) := by decide +kernel
theorem dX0_init_25 : decode cX0_init 25 = .ok (.putfield 18, 3) := by decide +kernel
theorem dX0_init_28 : decode cX0_init 28 = .ok (.aload_n 0, 1) := by decide +kernel
theorem dX0_init_29 : decode cX0_init 29 = .ok (.bipush 20, 2) := by decide +kernel
theorem dX0_init_31 : decode cX0_init 31 = .ok (.newarray .int, 2) := by decide +kernel
theorem dX0_init_33 : decode cX0_init 33 = .ok (.putfield 21, 3) := by decide +kernel
theorem dX0_init_36 : decode cX0_init 36 = .ok (.aload_n 0, 1) := by decide +kernel
theorem dX0_init_37 : decode cX0_init 37 = .ok (.bipush 20, 2) := by decide +kernel
theorem dX0_init_39 : decode cX0_init 39 = .ok (.newarray .int, 2) := by decide +kernel
theorem dX0_init_41 : decode cX0_init 41 = .ok (.putfield 24, 3) := by decide +kernel
theorem dX0_init_44 : decode cX0_init 44 = .ok (.aload_n 0, 1) := by decide +kernel
theorem dX0_init_45 : decode cX0_init 45 = .ok (.bipush 20, 2) := by decide +kernel
theorem dX0_init_47 : decode cX0_init 47 = .ok (.newarray .int, 2) := by decide +kernel
theorem dX0_init_49 : decode cX0_init 49 = .ok (.putfield 27, 3) := by decide +kernel
theorem dX0_init_52 : decode cX0_init 52 = .ok (.aload_n 0, 1) := by decide +kernel
theorem dX0_init_53 : decode cX0_init 53 = .ok (.iconst 0, 1) := by decide +kernel
theorem dX0_init_54 : decode cX0_init 54 = .ok (.putfield 30, 3) := by decide +kernel
theorem dX0_init_57 : decode cX0_init 57 = .ok (.return_, 1) := by decide +kernel
theorem dX0_size_0 : decode cX0_size 0 = .ok (.aload_n 0, 1) := by decide +kernel
theorem dX0_size_1 : decode cX0_size 1 = .ok (.getfield 30, 3) := by decide +kernel
theorem dX0_size_4 : decode cX0_size 4 = .ok (.ireturn, 1) := by decide +kernel
theorem dX0_isFull_0 : decode cX0_isFull 0 = .ok (.aload_n 0, 1) := by decide +kernel
theorem dX0_isFull_1 : decode cX0_isFull 1 = .ok (.getfield 30, 3) := by decide +kernel
theorem dX0_isFull_4 : decode cX0_isFull 4 = .ok (.bipush 20, 2) := by decide +kernel
theorem dX0_isFull_6 : decode cX0_isFull 6 = .ok (.if_icmp .lt 7, 3) := by decide +kernel
theorem dX0_isFull_9 : decode cX0_isFull 9 = .ok (.iconst 1, 1) := by decide +kernel
theorem dX0_isFull_10 : decode cX0_isFull 10 = .ok (.goto 4, 3) := by decide +kernel
theorem dX0_isFull_13 : decode cX0_isFull 13 = .ok (.iconst 0, 1) := by decide +kernel
theorem dX0_isFull_14 : decode cX0_isFull 14 = .ok (.ireturn, 1) := by decide +kernel
theorem dX0_clear_0 : decode cX0_clear 0 = .ok (.aload_n 0, 1) := by decide +kernel
theorem dX0_clear_1 : decode cX0_clear 1 = .ok (.iconst 0, 1) := by decide +kernel
theorem dX0_clear_2 : decode cX0_clear 2 = .ok (.putfield 30, 3) := by decide +kernel
theorem dX0_clear_5 : decode cX0_clear 5 = .ok (.return_, 1) := by decide +kernel
theorem dX0_add_0 : decode cX0_add 0 = .ok (.aload_n 0, 1) := by decide +kernel
theorem dX0_add_1 : decode cX0_add 1 = .ok (.invokevirtual 34, 3) := by decide +kernel
theorem dX0_add_4 : decode cX0_add 4 = .ok (.ifCond .eq 4, 3) := by decide +kernel
theorem dX0_add_7 : decode cX0_add 7 = .ok (.return_, 1) := by decide +kernel
theorem dX0_add_8 : decode cX0_add 8 = .ok (.aload_n 0, 1) := by decide +kernel
theorem dX0_add_9 : decode cX0_add 9 = .ok (.getfield 11, 3) := by decide +kernel
theorem dX0_add_12 : decode cX0_add 12 = .ok (.aload_n 0, 1) := by decide +kernel
theorem dX0_add_13 : decode cX0_add 13 = .ok (.getfield 30, 3) := by decide +kernel
theorem dX0_add_16 : decode cX0_add 16 = .ok (.iload_n 1, 1) := by decide +kernel
theorem dX0_add_17 : decode cX0_add 17 = .ok (.iastore, 1) := by decide +kernel
theorem dX0_add_18 : decode cX0_add 18 = .ok (.aload_n 0, 1) := by decide +kernel
theorem dX0_add_19 : decode cX0_add 19 = .ok (.getfield 15, 3) := by decide +kernel
theorem dX0_add_22 : decode cX0_add 22 = .ok (.aload_n 0, 1) := by decide +kernel
theorem dX0_add_23 : decode cX0_add 23 = .ok (.getfield 30, 3) := by decide +kernel
theorem dX0_add_26 : decode cX0_add 26 = .ok (.iload_n 2, 1) := by decide +kernel
theorem dX0_add_27 : decode cX0_add 27 = .ok (.iastore, 1) := by decide +kernel
theorem dX0_add_28 : decode cX0_add 28 = .ok (.aload_n 0, 1) := by decide +kernel
theorem dX0_add_29 : decode cX0_add 29 = .ok (.getfield 18, 3) := by decide +kernel
theorem dX0_add_32 : decode cX0_add 32 = .ok (.aload_n 0, 1) := by decide +kernel
theorem dX0_add_33 : decode cX0_add 33 = .ok (.getfield 30, 3) := by decide +kernel
theorem dX0_add_36 : decode cX0_add 36 = .ok (.iload_n 3, 1) := by decide +kernel
theorem dX0_add_37 : decode cX0_add 37 = .ok (.iastore, 1) := by decide +kernel
theorem dX0_add_38 : decode cX0_add 38 = .ok (.aload_n 0, 1) := by decide +kernel
theorem dX0_add_39 : decode cX0_add 39 = .ok (.getfield 21, 3) := by decide +kernel
theorem dX0_add_42 : decode cX0_add 42 = .ok (.aload_n 0, 1) := by decide +kernel
theorem dX0_add_43 : decode cX0_add 43 = .ok (.getfield 30, 3) := by decide +kernel
theorem dX0_add_46 : decode cX0_add 46 = .ok (.iload 4, 2) := by decide +kernel
theorem dX0_add_48 : decode cX0_add 48 = .ok (.iastore, 1) := by decide +kernel
theorem dX0_add_49 : decode cX0_add 49 = .ok (.aload_n 0, 1) := by decide +kernel
theorem dX0_add_50 : decode cX0_add 50 = .ok (.getfield 24, 3) := by decide +kernel
theorem dX0_add_53 : decode cX0_add 53 = .ok (.aload_n 0, 1) := by decide +kernel
theorem dX0_add_54 : decode cX0_add 54 = .ok (.getfield 30, 3) := by decide +kernel
theorem dX0_add_57 : decode cX0_add 57 = .ok (.iload 5, 2) := by decide +kernel
theorem dX0_add_59 : decode cX0_add 59 = .ok (.iastore, 1) := by decide +kernel
theorem dX0_add_60 : decode cX0_add 60 = .ok (.aload_n 0, 1) := by decide +kernel
theorem dX0_add_61 : decode cX0_add 61 = .ok (.getfield 27, 3) := by decide +kernel
theorem dX0_add_64 : decode cX0_add 64 = .ok (.aload_n 0, 1) := by decide +kernel
theorem dX0_add_65 : decode cX0_add 65 = .ok (.getfield 30, 3) := by decide +kernel
theorem dX0_add_68 : decode cX0_add 68 = .ok (.iload 6, 2) := by decide +kernel
theorem dX0_add_70 : decode cX0_add 70 = .ok (.iastore, 1) := by decide +kernel
theorem dX0_add_71 : decode cX0_add 71 = .ok (.aload_n 0, 1) := by decide +kernel
theorem dX0_add_72 : decode cX0_add 72 = .ok (.dup, 1) := by decide +kernel
theorem dX0_add_73 : decode cX0_add 73 = .ok (.getfield 30, 3) := by decide +kernel
theorem dX0_add_76 : decode cX0_add 76 = .ok (.iconst 1, 1) := by decide +kernel
theorem dX0_add_77 : decode cX0_add 77 = .ok (.iadd, 1) := by decide +kernel
theorem dX0_add_78 : decode cX0_add 78 = .ok (.putfield 30, 3) := by decide +kernel
theorem dX0_add_81 : decode cX0_add 81 = .ok (.return_, 1) := by decide +kernel
theorem dX0_copyFrom_0 : decode cX0_copyFrom 0 = .ok (.aload_n 1, 1) := by decide +kernel
theorem dX0_copyFrom_1 : decode cX0_copyFrom 1 = .ok (.getfield 11, 3) := by decide +kernel
theorem dX0_copyFrom_4 : decode cX0_copyFrom 4 = .ok (.iconst 0, 1) := by decide +kernel
theorem dX0_copyFrom_5 : decode cX0_copyFrom 5 = .ok (.aload_n 0, 1) := by decide +kernel
theorem dX0_copyFrom_6 : decode cX0_copyFrom 6 = .ok (.getfield 11, 3) := by decide +kernel
theorem dX0_copyFrom_9 : decode cX0_copyFrom 9 = .ok (.iconst 0, 1) := by decide +kernel
theorem dX0_copyFrom_10 : decode cX0_copyFrom 10 = .ok (.bipush 20, 2) := by decide +kernel
theorem dX0_copyFrom_12 : decode cX0_copyFrom 12 = .ok (.invokestatic 38, 3) := by decide +kernel
theorem dX0_copyFrom_15 : decode cX0_copyFrom 15 = .ok (.aload_n 1, 1) := by decide +kernel
theorem dX0_copyFrom_16 : decode cX0_copyFrom 16 = .ok (.getfield 15, 3) := by decide +kernel
theorem dX0_copyFrom_19 : decode cX0_copyFrom 19 = .ok (.iconst 0, 1) := by decide +kernel
theorem dX0_copyFrom_20 : decode cX0_copyFrom 20 = .ok (.aload_n 0, 1) := by decide +kernel
theorem dX0_copyFrom_21 : decode cX0_copyFrom 21 = .ok (.getfield 15, 3) := by decide +kernel
theorem dX0_copyFrom_24 : decode cX0_copyFrom 24 = .ok (.iconst 0, 1) := by decide +kernel
theorem dX0_copyFrom_25 : decode cX0_copyFrom 25 = .ok (.bipush 20, 2) := by decide +kernel
theorem dX0_copyFrom_27 : decode cX0_copyFrom 27 = .ok (.invokestatic 38, 3) := by decide +kernel
theorem dX0_copyFrom_30 : decode cX0_copyFrom 30 = .ok (.aload_n 1, 1) := by decide +kernel
theorem dX0_copyFrom_31 : decode cX0_copyFrom 31 = .ok (.getfield 18, 3) := by decide +kernel
theorem dX0_copyFrom_34 : decode cX0_copyFrom 34 = .ok (.iconst 0, 1) := by decide +kernel
theorem dX0_copyFrom_35 : decode cX0_copyFrom 35 = .ok (.aload_n 0, 1) := by decide +kernel
theorem dX0_copyFrom_36 : decode cX0_copyFrom 36 = .ok (.getfield 18, 3) := by decide +kernel
theorem dX0_copyFrom_39 : decode cX0_copyFrom 39 = .ok (.iconst 0, 1) := by decide +kernel
theorem dX0_copyFrom_40 : decode cX0_copyFrom 40 = .ok (.bipush 20, 2) := by decide +kernel
theorem dX0_copyFrom_42 : decode cX0_copyFrom 42 = .ok (.invokestatic 38, 3) := by decide +kernel
theorem dX0_copyFrom_45 : decode cX0_copyFrom 45 = .ok (.aload_n 1, 1) := by decide +kernel
theorem dX0_copyFrom_46 : decode cX0_copyFrom 46 = .ok (.getfield 21, 3) := by decide +kernel
theorem dX0_copyFrom_49 : decode cX0_copyFrom 49 = .ok (.iconst 0, 1) := by decide +kernel
theorem dX0_copyFrom_50 : decode cX0_copyFrom 50 = .ok (.aload_n 0, 1) := by decide +kernel
theorem dX0_copyFrom_51 : decode cX0_copyFrom 51 = .ok (.getfield 21, 3) := by decide +kernel
theorem dX0_copyFrom_54 : decode cX0_copyFrom 54 = .ok (.iconst 0, 1) := by decide +kernel
theorem dX0_copyFrom_55 : decode cX0_copyFrom 55 = .ok (.bipush 20, 2) := by decide +kernel
theorem dX0_copyFrom_57 : decode cX0_copyFrom 57 = .ok (.invokestatic 38, 3) := by decide +kernel
theorem dX0_copyFrom_60 : decode cX0_copyFrom 60 = .ok (.aload_n 1, 1) := by decide +kernel
theorem dX0_copyFrom_61 : decode cX0_copyFrom 61 = .ok (.getfield 24, 3) := by decide +kernel
theorem dX0_copyFrom_64 : decode cX0_copyFrom 64 = .ok (.iconst 0, 1) := by decide +kernel
theorem dX0_copyFrom_65 : decode cX0_copyFrom 65 = .ok (.aload_n 0, 1) := by decide +kernel
theorem dX0_copyFrom_66 : decode cX0_copyFrom 66 = .ok (.getfield 24, 3) := by decide +kernel
theorem dX0_copyFrom_69 : decode cX0_copyFrom 69 = .ok (.iconst 0, 1) := by decide +kernel
theorem dX0_copyFrom_70 : decode cX0_copyFrom 70 = .ok (.bipush 20, 2) := by decide +kernel
theorem dX0_copyFrom_72 : decode cX0_copyFrom 72 = .ok (.invokestatic 38, 3) := by decide +kernel
theorem dX0_copyFrom_75 : decode cX0_copyFrom 75 = .ok (.aload_n 1, 1) := by decide +kernel
theorem dX0_copyFrom_76 : decode cX0_copyFrom 76 = .ok (.getfield 27, 3) := by decide +kernel
theorem dX0_copyFrom_79 : decode cX0_copyFrom 79 = .ok (.iconst 0, 1) := by decide +kernel
theorem dX0_copyFrom_80 : decode cX0_copyFrom 80 = .ok (.aload_n 0, 1) := by decide +kernel
theorem dX0_copyFrom_81 : decode cX0_copyFrom 81 = .ok (.getfield 27, 3) := by decide +kernel
theorem dX0_copyFrom_84 : decode cX0_copyFrom 84 = .ok (.iconst 0, 1) := by decide +kernel
theorem dX0_copyFrom_85 : decode cX0_copyFrom 85 = .ok (.bipush 20, 2) := by decide +kernel
theorem dX0_copyFrom_87 : decode cX0_copyFrom 87 = .ok (.invokestatic 38, 3) := by decide +kernel
theorem dX0_copyFrom_90 : decode cX0_copyFrom 90 = .ok (.aload_n 0, 1) := by decide +kernel
theorem dX0_copyFrom_91 : decode cX0_copyFrom 91 = .ok (.aload_n 1, 1) := by decide +kernel
theorem dX0_copyFrom_92 : decode cX0_copyFrom 92 = .ok (.getfield 30, 3) := by decide +kernel
theorem dX0_copyFrom_95 : decode cX0_copyFrom 95 = .ok (.putfield 30, 3) := by decide +kernel
theorem dX0_copyFrom_98 : decode cX0_copyFrom 98 = .ok (.return_, 1) := by decide +kernel
theorem dX0_permits_0 : decode cX0_permits 0 = .ok (.aload_n 0, 1) := by decide +kernel
theorem dX0_permits_1 : decode cX0_permits 1 = .ok (.getfield 30, 3) := by decide +kernel
theorem dX0_permits_4 : decode cX0_permits 4 = .ok (.iconst 1, 1) := by decide +kernel
theorem dX0_permits_5 : decode cX0_permits 5 = .ok (.isub, 1) := by decide +kernel
theorem dX0_permits_6 : decode cX0_permits 6 = .ok (.istore 4, 2) := by decide +kernel
theorem dX0_permits_8 : decode cX0_permits 8 = .ok (.iload 4, 2) := by decide +kernel
theorem dX0_permits_10 : decode cX0_permits 10 = .ok (.ifCond .lt 51, 3) := by decide +kernel
theorem dX0_permits_13 : decode cX0_permits 13 = .ok (.aload_n 0, 1) := by decide +kernel
theorem dX0_permits_14 : decode cX0_permits 14 = .ok (.getfield 11, 3) := by decide +kernel
theorem dX0_permits_17 : decode cX0_permits 17 = .ok (.iload 4, 2) := by decide +kernel
theorem dX0_permits_19 : decode cX0_permits 19 = .ok (.iaload, 1) := by decide +kernel
theorem dX0_permits_20 : decode cX0_permits 20 = .ok (.bipush 10, 2) := by decide +kernel
theorem dX0_permits_22 : decode cX0_permits 22 = .ok (.if_icmp .eq 33, 3) := by decide +kernel
theorem dX0_permits_25 : decode cX0_permits 25 = .ok (.aload_n 0, 1) := by decide +kernel
theorem dX0_permits_26 : decode cX0_permits 26 = .ok (.iload 4, 2) := by decide +kernel
theorem dX0_permits_28 : decode cX0_permits 28 = .ok (.iload_n 1, 1) := by decide +kernel
theorem dX0_permits_29 : decode cX0_permits 29 = .ok (.iload_n 2, 1) := by decide +kernel
theorem dX0_permits_30 : decode cX0_permits 30 = .ok (.iload_n 3, 1) := by decide +kernel
theorem dX0_permits_31 : decode cX0_permits 31 = .ok (.invokevirtual 46, 3) := by decide +kernel
theorem dX0_permits_34 : decode cX0_permits 34 = .ok (.ifCond .eq 21, 3) := by decide +kernel
theorem dX0_permits_37 : decode cX0_permits 37 = .ok (.aload_n 0, 1) := by decide +kernel
theorem dX0_permits_38 : decode cX0_permits 38 = .ok (.getfield 11, 3) := by decide +kernel
theorem dX0_permits_41 : decode cX0_permits 41 = .ok (.iload 4, 2) := by decide +kernel
theorem dX0_permits_43 : decode cX0_permits 43 = .ok (.iaload, 1) := by decide +kernel
theorem dX0_permits_44 : decode cX0_permits 44 = .ok (.bipush 8, 2) := by decide +kernel
theorem dX0_permits_46 : decode cX0_permits 46 = .ok (.if_icmp .ne 7, 3) := by decide +kernel
theorem dX0_permits_49 : decode cX0_permits 49 = .ok (.iconst 1, 1) := by decide +kernel
theorem dX0_permits_50 : decode cX0_permits 50 = .ok (.goto 4, 3) := by decide +kernel
theorem dX0_permits_53 : decode cX0_permits 53 = .ok (.iconst 0, 1) := by decide +kernel
theorem dX0_permits_54 : decode cX0_permits 54 = .ok (.ireturn, 1) := by decide +kernel
theorem dX0_permits_55 : decode cX0_permits 55 = .ok (.iinc 4 (-1), 3) := by decide +kernel
theorem dX0_permits_58 : decode cX0_permits 58 = .ok (.goto (-50), 3) := by decide +kernel
theorem dX0_permits_61 : decode cX0_permits 61 = .ok (.iconst 1, 1) := by decide +kernel
theorem dX0_permits_62 : decode cX0_permits 62 = .ok (.ireturn, 1) := by decide +kernel
theorem dX0_speedOn_0 : decode cX0_speedOn 0 = .ok (.aload_n 0, 1) := by decide +kernel
theorem dX0_speedOn_1 : decode cX0_speedOn 1 = .ok (.getfield 30, 3) := by decide +kernel
theorem dX0_speedOn_4 : decode cX0_speedOn 4 = .ok (.iconst 1, 1) := by decide +kernel
theorem dX0_speedOn_5 : decode cX0_speedOn 5 = .ok (.isub, 1) := by decide +kernel
theorem dX0_speedOn_6 : decode cX0_speedOn 6 = .ok (.istore 4, 2) := by decide +kernel
theorem dX0_speedOn_8 : decode cX0_speedOn 8 = .ok (.iload 4, 2) := by decide +kernel
theorem dX0_speedOn_10 : decode cX0_speedOn 10 = .ok (.ifCond .lt 41, 3) := by decide +kernel
theorem dX0_speedOn_13 : decode cX0_speedOn 13 = .ok (.aload_n 0, 1) := by decide +kernel
theorem dX0_speedOn_14 : decode cX0_speedOn 14 = .ok (.getfield 11, 3) := by decide +kernel
theorem dX0_speedOn_17 : decode cX0_speedOn 17 = .ok (.iload 4, 2) := by decide +kernel
theorem dX0_speedOn_19 : decode cX0_speedOn 19 = .ok (.iaload, 1) := by decide +kernel
theorem dX0_speedOn_20 : decode cX0_speedOn 20 = .ok (.bipush 10, 2) := by decide +kernel
theorem dX0_speedOn_22 : decode cX0_speedOn 22 = .ok (.if_icmp .ne 23, 3) := by decide +kernel
theorem dX0_speedOn_25 : decode cX0_speedOn 25 = .ok (.aload_n 0, 1) := by decide +kernel
theorem dX0_speedOn_26 : decode cX0_speedOn 26 = .ok (.iload 4, 2) := by decide +kernel
theorem dX0_speedOn_28 : decode cX0_speedOn 28 = .ok (.iload_n 1, 1) := by decide +kernel
theorem dX0_speedOn_29 : decode cX0_speedOn 29 = .ok (.iload_n 2, 1) := by decide +kernel
theorem dX0_speedOn_30 : decode cX0_speedOn 30 = .ok (.iload_n 3, 1) := by decide +kernel
theorem dX0_speedOn_31 : decode cX0_speedOn 31 = .ok (.invokevirtual 46, 3) := by decide +kernel
theorem dX0_speedOn_34 : decode cX0_speedOn 34 = .ok (.ifCond .eq 11, 3) := by decide +kernel
theorem dX0_speedOn_37 : decode cX0_speedOn 37 = .ok (.aload_n 0, 1) := by decide +kernel
theorem dX0_speedOn_38 : decode cX0_speedOn 38 = .ok (.getfield 27, 3) := by decide +kernel
theorem dX0_speedOn_41 : decode cX0_speedOn 41 = .ok (.iload 4, 2) := by decide +kernel
theorem dX0_speedOn_43 : decode cX0_speedOn 43 = .ok (.iaload, 1) := by decide +kernel
theorem dX0_speedOn_44 : decode cX0_speedOn 44 = .ok (.ireturn, 1) := by decide +kernel
theorem dX0_speedOn_45 : decode cX0_speedOn 45 = .ok (.iinc 4 (-1), 3) := by decide +kernel
theorem dX0_speedOn_48 : decode cX0_speedOn 48 = .ok (.goto (-40), 3) := by decide +kernel
theorem dX0_speedOn_51 : decode cX0_speedOn 51 = .ok (.iconst 5, 1) := by decide +kernel
theorem dX0_speedOn_52 : decode cX0_speedOn 52 = .ok (.ireturn, 1) := by decide +kernel
theorem dX0_isFor_0 : decode cX0_isFor 0 = .ok (.aload_n 0, 1) := by decide +kernel
theorem dX0_isFor_1 : decode cX0_isFor 1 = .ok (.getfield 15, 3) := by decide +kernel
theorem dX0_isFor_4 : decode cX0_isFor 4 = .ok (.iload_n 1, 1) := by decide +kernel
theorem dX0_isFor_5 : decode cX0_isFor 5 = .ok (.iaload, 1) := by decide +kernel
theorem dX0_isFor_6 : decode cX0_isFor 6 = .ok (.iconst 4, 1) := by decide +kernel
theorem dX0_isFor_7 : decode cX0_isFor 7 = .ok (.if_icmp .eq 13, 3) := by decide +kernel
theorem dX0_isFor_10 : decode cX0_isFor 10 = .ok (.aload_n 0, 1) := by decide +kernel
theorem dX0_isFor_11 : decode cX0_isFor 11 = .ok (.getfield 15, 3) := by decide +kernel
theorem dX0_isFor_14 : decode cX0_isFor 14 = .ok (.iload_n 1, 1) := by decide +kernel
theorem dX0_isFor_15 : decode cX0_isFor 15 = .ok (.iaload, 1) := by decide +kernel
theorem dX0_isFor_16 : decode cX0_isFor 16 = .ok (.iload_n 2, 1) := by decide +kernel
theorem dX0_isFor_17 : decode cX0_isFor 17 = .ok (.if_icmp .ne 49, 3) := by decide +kernel
theorem dX0_isFor_20 : decode cX0_isFor 20 = .ok (.aload_n 0, 1) := by decide +kernel
theorem dX0_isFor_21 : decode cX0_isFor 21 = .ok (.getfield 18, 3) := by decide +kernel
theorem dX0_isFor_24 : decode cX0_isFor 24 = .ok (.iload_n 1, 1) := by decide +kernel
theorem dX0_isFor_25 : decode cX0_isFor 25 = .ok (.iaload, 1) := by decide +kernel
theorem dX0_isFor_26 : decode cX0_isFor 26 = .ok (.iconst (-1), 1) := by decide +kernel
theorem dX0_isFor_27 : decode cX0_isFor 27 = .ok (.if_icmp .eq 13, 3) := by decide +kernel
theorem dX0_isFor_30 : decode cX0_isFor 30 = .ok (.aload_n 0, 1) := by decide +kernel
theorem dX0_isFor_31 : decode cX0_isFor 31 = .ok (.getfield 18, 3) := by decide +kernel
theorem dX0_isFor_34 : decode cX0_isFor 34 = .ok (.iload_n 1, 1) := by decide +kernel
theorem dX0_isFor_35 : decode cX0_isFor 35 = .ok (.iaload, 1) := by decide +kernel
theorem dX0_isFor_36 : decode cX0_isFor 36 = .ok (.iload_n 3, 1) := by decide +kernel
theorem dX0_isFor_37 : decode cX0_isFor 37 = .ok (.if_icmp .ne 29, 3) := by decide +kernel
theorem dX0_isFor_40 : decode cX0_isFor 40 = .ok (.iload 4, 2) := by decide +kernel
theorem dX0_isFor_42 : decode cX0_isFor 42 = .ok (.aload_n 0, 1) := by decide +kernel
theorem dX0_isFor_43 : decode cX0_isFor 43 = .ok (.getfield 21, 3) := by decide +kernel
theorem dX0_isFor_46 : decode cX0_isFor 46 = .ok (.iload_n 1, 1) := by decide +kernel
theorem dX0_isFor_47 : decode cX0_isFor 47 = .ok (.iaload, 1) := by decide +kernel
theorem dX0_isFor_48 : decode cX0_isFor 48 = .ok (.if_icmp .lt 18, 3) := by decide +kernel
theorem dX0_isFor_51 : decode cX0_isFor 51 = .ok (.iload 4, 2) := by decide +kernel
theorem dX0_isFor_53 : decode cX0_isFor 53 = .ok (.aload_n 0, 1) := by decide +kernel
theorem dX0_isFor_54 : decode cX0_isFor 54 = .ok (.getfield 24, 3) := by decide +kernel
theorem dX0_isFor_57 : decode cX0_isFor 57 = .ok (.iload_n 1, 1) := by decide +kernel
theorem dX0_isFor_58 : decode cX0_isFor 58 = .ok (.iaload, 1) := by decide +kernel
theorem dX0_isFor_59 : decode cX0_isFor 59 = .ok (.if_icmp .ge 7, 3) := by decide +kernel
theorem dX0_isFor_62 : decode cX0_isFor 62 = .ok (.iconst 1, 1) := by decide +kernel
theorem dX0_isFor_63 : decode cX0_isFor 63 = .ok (.goto 4, 3) := by decide +kernel
theorem dX0_isFor_66 : decode cX0_isFor 66 = .ok (.iconst 0, 1) := by decide +kernel
theorem dX0_isFor_67 : decode cX0_isFor 67 = .ok (.ireturn, 1) := by decide +kernel
theorem dX0_nextChange_0 : decode cX0_nextChange 0 = .ok (.ldc 52, 2) := by decide +kernel
theorem dX0_nextChange_2 : decode cX0_nextChange 2 = .ok (.istore_n 2, 1) := by decide +kernel
theorem dX0_nextChange_3 : decode cX0_nextChange 3 = .ok (.iconst 0, 1) := by decide +kernel
theorem dX0_nextChange_4 : decode cX0_nextChange 4 = .ok (.istore_n 3, 1) := by decide +kernel
theorem dX0_nextChange_5 : decode cX0_nextChange 5 = .ok (.iload_n 3, 1) := by decide +kernel
theorem dX0_nextChange_6 : decode cX0_nextChange 6 = .ok (.aload_n 0, 1) := by decide +kernel
theorem dX0_nextChange_7 : decode cX0_nextChange 7 = .ok (.getfield 30, 3) := by decide +kernel
theorem dX0_nextChange_10 : decode cX0_nextChange 10 = .ok (.if_icmp .ge 51, 3) := by decide +kernel
theorem dX0_nextChange_13 : decode cX0_nextChange 13 = .ok (.aload_n 0, 1) := by decide +kernel
theorem dX0_nextChange_14 : decode cX0_nextChange 14 = .ok (.getfield 21, 3) := by decide +kernel
theorem dX0_nextChange_17 : decode cX0_nextChange 17 = .ok (.iload_n 3, 1) := by decide +kernel
theorem dX0_nextChange_18 : decode cX0_nextChange 18 = .ok (.iaload, 1) := by decide +kernel
theorem dX0_nextChange_19 : decode cX0_nextChange 19 = .ok (.iload_n 1, 1) := by decide +kernel
theorem dX0_nextChange_20 : decode cX0_nextChange 20 = .ok (.if_icmp .le 14, 3) := by decide +kernel
theorem dX0_nextChange_23 : decode cX0_nextChange 23 = .ok (.iload_n 2, 1) := by decide +kernel
theorem dX0_nextChange_24 : decode cX0_nextChange 24 = .ok (.aload_n 0, 1) := by decide +kernel
theorem dX0_nextChange_25 : decode cX0_nextChange 25 = .ok (.getfield 21, 3) := by decide +kernel
theorem dX0_nextChange_28 : decode cX0_nextChange 28 = .ok (.iload_n 3, 1) := by decide +kernel
theorem dX0_nextChange_29 : decode cX0_nextChange 29 = .ok (.iaload, 1) := by decide +kernel
theorem dX0_nextChange_30 : decode cX0_nextChange 30 = .ok (.invokestatic 53, 3) := by decide +kernel
theorem dX0_nextChange_33 : decode cX0_nextChange 33 = .ok (.istore_n 2, 1) := by decide +kernel
theorem dX0_nextChange_34 : decode cX0_nextChange 34 = .ok (.aload_n 0, 1) := by decide +kernel
theorem dX0_nextChange_35 : decode cX0_nextChange 35 = .ok (.getfield 24, 3) := by decide +kernel
theorem dX0_nextChange_38 : decode cX0_nextChange 38 = .ok (.iload_n 3, 1) := by decide +kernel
theorem dX0_nextChange_39 : decode cX0_nextChange 39 = .ok (.iaload, 1) := by decide +kernel
theorem dX0_nextChange_40 : decode cX0_nextChange 40 = .ok (.iload_n 1, 1) := by decide +kernel
theorem dX0_nextChange_41 : decode cX0_nextChange 41 = .ok (.if_icmp .le 14, 3) := by decide +kernel
theorem dX0_nextChange_44 : decode cX0_nextChange 44 = .ok (.iload_n 2, 1) := by decide +kernel
theorem dX0_nextChange_45 : decode cX0_nextChange 45 = .ok (.aload_n 0, 1) := by decide +kernel
theorem dX0_nextChange_46 : decode cX0_nextChange 46 = .ok (.getfield 24, 3) := by decide +kernel
theorem dX0_nextChange_49 : decode cX0_nextChange 49 = .ok (.iload_n 3, 1) := by decide +kernel
theorem dX0_nextChange_50 : decode cX0_nextChange 50 = .ok (.iaload, 1) := by decide +kernel
theorem dX0_nextChange_51 : decode cX0_nextChange 51 = .ok (.invokestatic 53, 3) := by decide +kernel
theorem dX0_nextChange_54 : decode cX0_nextChange 54 = .ok (.istore_n 2, 1) := by decide +kernel
theorem dX0_nextChange_55 : decode cX0_nextChange 55 = .ok (.iinc 3 1, 3) := by decide +kernel
theorem dX0_nextChange_58 : decode cX0_nextChange 58 = .ok (.goto (-53), 3) := by decide +kernel
theorem dX0_nextChange_61 : decode cX0_nextChange 61 = .ok (.iload_n 2, 1) := by decide +kernel
theorem dX0_nextChange_62 : decode cX0_nextChange 62 = .ok (.ireturn, 1) := by decide +kernel
theorem dX0_lastChange_0 : decode cX0_lastChange 0 = .ok (.iconst 0, 1) := by decide +kernel
theorem dX0_lastChange_1 : decode cX0_lastChange 1 = .ok (.istore_n 1, 1) := by decide +kernel
theorem dX0_lastChange_2 : decode cX0_lastChange 2 = .ok (.iconst 0, 1) := by decide +kernel
theorem dX0_lastChange_3 : decode cX0_lastChange 3 = .ok (.istore_n 2, 1) := by decide +kernel
theorem dX0_lastChange_4 : decode cX0_lastChange 4 = .ok (.iload_n 2, 1) := by decide +kernel
theorem dX0_lastChange_5 : decode cX0_lastChange 5 = .ok (.aload_n 0, 1) := by decide +kernel
theorem dX0_lastChange_6 : decode cX0_lastChange 6 = .ok (.getfield 30, 3) := by decide +kernel
theorem dX0_lastChange_9 : decode cX0_lastChange 9 = .ok (.if_icmp .ge 43, 3) := by decide +kernel
theorem dX0_lastChange_12 : decode cX0_lastChange 12 = .ok (.iload_n 1, 1) := by decide +kernel
theorem dX0_lastChange_13 : decode cX0_lastChange 13 = .ok (.aload_n 0, 1) := by decide +kernel
theorem dX0_lastChange_14 : decode cX0_lastChange 14 = .ok (.getfield 21, 3) := by decide +kernel
theorem dX0_lastChange_17 : decode cX0_lastChange 17 = .ok (.iload_n 2, 1) := by decide +kernel
theorem dX0_lastChange_18 : decode cX0_lastChange 18 = .ok (.iaload, 1) := by decide +kernel
theorem dX0_lastChange_19 : decode cX0_lastChange 19 = .ok (.invokestatic 59, 3) := by decide +kernel
theorem dX0_lastChange_22 : decode cX0_lastChange 22 = .ok (.istore_n 1, 1) := by decide +kernel
theorem dX0_lastChange_23 : decode cX0_lastChange 23 = .ok (.aload_n 0, 1) := by decide +kernel
theorem dX0_lastChange_24 : decode cX0_lastChange 24 = .ok (.getfield 24, 3) := by decide +kernel
theorem dX0_lastChange_27 : decode cX0_lastChange 27 = .ok (.iload_n 2, 1) := by decide +kernel
theorem dX0_lastChange_28 : decode cX0_lastChange 28 = .ok (.iaload, 1) := by decide +kernel
theorem dX0_lastChange_29 : decode cX0_lastChange 29 = .ok (.sipush 1440, 3) := by decide +kernel
theorem dX0_lastChange_32 : decode cX0_lastChange 32 = .ok (.if_icmp .ge 14, 3) := by decide +kernel
theorem dX0_lastChange_35 : decode cX0_lastChange 35 = .ok (.iload_n 1, 1) := by decide +kernel
theorem dX0_lastChange_36 : decode cX0_lastChange 36 = .ok (.aload_n 0, 1) := by decide +kernel
theorem dX0_lastChange_37 : decode cX0_lastChange 37 = .ok (.getfield 24, 3) := by decide +kernel
theorem dX0_lastChange_40 : decode cX0_lastChange 40 = .ok (.iload_n 2, 1) := by decide +kernel
theorem dX0_lastChange_41 : decode cX0_lastChange 41 = .ok (.iaload, 1) := by decide +kernel
theorem dX0_lastChange_42 : decode cX0_lastChange 42 = .ok (.invokestatic 59, 3) := by decide +kernel
theorem dX0_lastChange_45 : decode cX0_lastChange 45 = .ok (.istore_n 1, 1) := by decide +kernel
theorem dX0_lastChange_46 : decode cX0_lastChange 46 = .ok (.iinc 2 1, 3) := by decide +kernel
theorem dX0_lastChange_49 : decode cX0_lastChange 49 = .ok (.goto (-45), 3) := by decide +kernel
theorem dX0_lastChange_52 : decode cX0_lastChange 52 = .ok (.iload_n 1, 1) := by decide +kernel
theorem dX0_lastChange_53 : decode cX0_lastChange 53 = .ok (.ireturn, 1) := by decide +kernel
theorem dX1_init_0 : decode cX1_init 0 = .ok (.aload_n 0, 1) := by decide +kernel
theorem dX1_init_1 : decode cX1_init 1 = .ok (.invokespecial 3, 3) := by decide +kernel
theorem dX1_init_4 : decode cX1_init 4 = .ok (.aload_n 0, 1) := by decide +kernel
theorem dX1_init_5 : decode cX1_init 5 = .ok (.bipush 60, 2) := by decide +kernel
theorem dX1_init_7 : decode cX1_init 7 = .ok (.newarray .int, 2) := by decide +kernel
theorem dX1_init_9 : decode cX1_init 9 = .ok (.putfield 11, 3) := by decide +kernel
theorem dX1_init_12 : decode cX1_init 12 = .ok (.aload_n 0, 1) := by decide +kernel
theorem dX1_init_13 : decode cX1_init 13 = .ok (.bipush 60, 2) := by decide +kernel
theorem dX1_init_15 : decode cX1_init 15 = .ok (.newarray .int, 2) := by decide +kernel
theorem dX1_init_17 : decode cX1_init 17 = .ok (.putfield 15, 3) := by decide +kernel
theorem dX1_init_20 : decode cX1_init 20 = .ok (.aload_n 0, 1) := by decide +kernel
theorem dX1_init_21 : decode cX1_init 21 = .ok (.bipush 60, 2) := by decide +kernel
theorem dX1_init_23 : decode cX1_init 23 = .ok (.newarray .int, 2) := by decide +kernel
theorem dX1_init_25 : decode cX1_init 25 = .ok (.putfield 18, 3) := by decide +kernel
theorem dX1_init_28 : decode cX1_init 28 = .ok (.aload_n 0, 1) := by decide +kernel
theorem dX1_init_29 : decode cX1_init 29 = .ok (.bipush 60, 2) := by decide +kernel
theorem dX1_init_31 : decode cX1_init 31 = .ok (.newarray .int, 2) := by decide +kernel
theorem dX1_init_33 : decode cX1_init 33 = .ok (.putfield 21, 3) := by decide +kernel
theorem dX1_init_36 : decode cX1_init 36 = .ok (.aload_n 0, 1) := by decide +kernel
theorem dX1_init_37 : decode cX1_init 37 = .ok (.bipush 60, 2) := by decide +kernel
theorem dX1_init_39 : decode cX1_init 39 = .ok (.newarray .int, 2) := by decide +kernel
theorem dX1_init_41 : decode cX1_init 41 = .ok (.putfield 24, 3) := by decide +kernel
theorem dX1_init_44 : decode cX1_init 44 = .ok (.aload_n 0, 1) := by decide +kernel
theorem dX1_init_45 : decode cX1_init 45 = .ok (.iconst 0, 1) := by decide +kernel
theorem dX1_init_46 : decode cX1_init 46 = .ok (.putfield 27, 3) := by decide +kernel
theorem dX1_init_49 : decode cX1_init 49 = .ok (.aload_n 0, 1) := by decide +kernel
theorem dX1_init_50 : decode cX1_init 50 = .ok (.iconst 0, 1) := by decide +kernel
theorem dX1_init_51 : decode cX1_init 51 = .ok (.putfield 31, 3) := by decide +kernel
theorem dX1_init_54 : decode cX1_init 54 = .ok (.return_, 1) := by decide +kernel
theorem dX1_size_0 : decode cX1_size 0 = .ok (.aload_n 0, 1) := by decide +kernel
theorem dX1_size_1 : decode cX1_size 1 = .ok (.getfield 27, 3) := by decide +kernel
theorem dX1_size_4 : decode cX1_size 4 = .ok (.ireturn, 1) := by decide +kernel
theorem dX1_today_0 : decode cX1_today 0 = .ok (.aload_n 0, 1) := by decide +kernel
theorem dX1_today_1 : decode cX1_today 1 = .ok (.getfield 31, 3) := by decide +kernel
theorem dX1_today_4 : decode cX1_today 4 = .ok (.ireturn, 1) := by decide +kernel
theorem dX1_goOn_0 : decode cX1_goOn 0 = .ok (.aload_n 0, 1) := by decide +kernel
theorem dX1_goOn_1 : decode cX1_goOn 1 = .ok (.getfield 31, 3) := by decide +kernel
theorem dX1_goOn_4 : decode cX1_goOn 4 = .ok (.iload_n 1, 1) := by decide +kernel
theorem dX1_goOn_5 : decode cX1_goOn 5 = .ok (.iadd, 1) := by decide +kernel
theorem dX1_goOn_6 : decode cX1_goOn 6 = .ok (.ldc 34, 2) := by decide +kernel
theorem dX1_goOn_8 : decode cX1_goOn 8 = .ok (.if_icmp .le 5, 3) := by decide +kernel
theorem dX1_goOn_11 : decode cX1_goOn 11 = .ok (.iconst (-1), 1) := by decide +kernel
theorem dX1_goOn_12 : decode cX1_goOn 12 = .ok (.ireturn, 1) := by decide +kernel
theorem dX1_goOn_13 : decode cX1_goOn 13 = .ok (.aload_n 0, 1) := by decide +kernel
theorem dX1_goOn_14 : decode cX1_goOn 14 = .ok (.dup, 1) := by decide +kernel
theorem dX1_goOn_15 : decode cX1_goOn 15 = .ok (.getfield 31, 3) := by decide +kernel
theorem dX1_goOn_18 : decode cX1_goOn 18 = .ok (.iload_n 1, 1) := by decide +kernel
theorem dX1_goOn_19 : decode cX1_goOn 19 = .ok (.iadd, 1) := by decide +kernel
theorem dX1_goOn_20 : decode cX1_goOn 20 = .ok (.putfield 31, 3) := by decide +kernel
theorem dX1_goOn_23 : decode cX1_goOn 23 = .ok (.aload_n 0, 1) := by decide +kernel
theorem dX1_goOn_24 : decode cX1_goOn 24 = .ok (.getfield 31, 3) := by decide +kernel
theorem dX1_goOn_27 : decode cX1_goOn 27 = .ok (.ireturn, 1) := by decide +kernel
theorem dX1_add_0 : decode cX1_add 0 = .ok (.aload_n 0, 1) := by decide +kernel
theorem dX1_add_1 : decode cX1_add 1 = .ok (.getfield 27, 3) := by decide +kernel
theorem dX1_add_4 : decode cX1_add 4 = .ok (.bipush 60, 2) := by decide +kernel
theorem dX1_add_6 : decode cX1_add 6 = .ok (.if_icmp .lt 5, 3) := by decide +kernel
theorem dX1_add_9 : decode cX1_add 9 = .ok (.iconst (-1), 1) := by decide +kernel
theorem dX1_add_10 : decode cX1_add 10 = .ok (.ireturn, 1) := by decide +kernel
theorem dX1_add_11 : decode cX1_add 11 = .ok (.aload_n 0, 1) := by decide +kernel
theorem dX1_add_12 : decode cX1_add 12 = .ok (.getfield 11, 3) := by decide +kernel
theorem dX1_add_15 : decode cX1_add 15 = .ok (.aload_n 0, 1) := by decide +kernel
theorem dX1_add_16 : decode cX1_add 16 = .ok (.getfield 27, 3) := by decide +kernel
theorem dX1_add_19 : decode cX1_add 19 = .ok (.iload_n 1, 1) := by decide +kernel
theorem dX1_add_20 : decode cX1_add 20 = .ok (.iastore, 1) := by decide +kernel
theorem dX1_add_21 : decode cX1_add 21 = .ok (.aload_n 0, 1) := by decide +kernel
theorem dX1_add_22 : decode cX1_add 22 = .ok (.getfield 15, 3) := by decide +kernel
theorem dX1_add_25 : decode cX1_add 25 = .ok (.aload_n 0, 1) := by decide +kernel
theorem dX1_add_26 : decode cX1_add 26 = .ok (.getfield 27, 3) := by decide +kernel
theorem dX1_add_29 : decode cX1_add 29 = .ok (.iload_n 2, 1) := by decide +kernel
theorem dX1_add_30 : decode cX1_add 30 = .ok (.iastore, 1) := by decide +kernel
theorem dX1_add_31 : decode cX1_add 31 = .ok (.aload_n 0, 1) := by decide +kernel
theorem dX1_add_32 : decode cX1_add 32 = .ok (.getfield 18, 3) := by decide +kernel
theorem dX1_add_35 : decode cX1_add 35 = .ok (.aload_n 0, 1) := by decide +kernel
theorem dX1_add_36 : decode cX1_add 36 = .ok (.getfield 27, 3) := by decide +kernel
theorem dX1_add_39 : decode cX1_add 39 = .ok (.iload_n 3, 1) := by decide +kernel
theorem dX1_add_40 : decode cX1_add 40 = .ok (.iastore, 1) := by decide +kernel
theorem dX1_add_41 : decode cX1_add 41 = .ok (.aload_n 0, 1) := by decide +kernel
theorem dX1_add_42 : decode cX1_add 42 = .ok (.getfield 21, 3) := by decide +kernel
theorem dX1_add_45 : decode cX1_add 45 = .ok (.aload_n 0, 1) := by decide +kernel
theorem dX1_add_46 : decode cX1_add 46 = .ok (.getfield 27, 3) := by decide +kernel
theorem dX1_add_49 : decode cX1_add 49 = .ok (.aload_n 0, 1) := by decide +kernel
theorem dX1_add_50 : decode cX1_add 50 = .ok (.getfield 31, 3) := by decide +kernel
theorem dX1_add_53 : decode cX1_add 53 = .ok (.iastore, 1) := by decide +kernel
theorem dX1_add_54 : decode cX1_add 54 = .ok (.aload_n 0, 1) := by decide +kernel
theorem dX1_add_55 : decode cX1_add 55 = .ok (.getfield 24, 3) := by decide +kernel
theorem dX1_add_58 : decode cX1_add 58 = .ok (.aload_n 0, 1) := by decide +kernel
theorem dX1_add_59 : decode cX1_add 59 = .ok (.getfield 27, 3) := by decide +kernel
theorem dX1_add_62 : decode cX1_add 62 = .ok (.iconst (-1), 1) := by decide +kernel
theorem dX1_add_63 : decode cX1_add 63 = .ok (.iastore, 1) := by decide +kernel
theorem dX1_add_64 : decode cX1_add 64 = .ok (.aload_n 0, 1) := by decide +kernel
theorem dX1_add_65 : decode cX1_add 65 = .ok (.dup, 1) := by decide +kernel
theorem dX1_add_66 : decode cX1_add 66 = .ok (.getfield 27, 3) := by decide +kernel
theorem dX1_add_69 : decode cX1_add 69 = .ok (.iconst 1, 1) := by decide +kernel
theorem dX1_add_70 : decode cX1_add 70 = .ok (.iadd, 1) := by decide +kernel
theorem dX1_add_71 : decode cX1_add 71 = .ok (.putfield 27, 3) := by decide +kernel
theorem dX1_add_74 : decode cX1_add 74 = .ok (.aload_n 0, 1) := by decide +kernel
theorem dX1_add_75 : decode cX1_add 75 = .ok (.getfield 27, 3) := by decide +kernel
theorem dX1_add_78 : decode cX1_add 78 = .ok (.iconst 1, 1) := by decide +kernel
theorem dX1_add_79 : decode cX1_add 79 = .ok (.isub, 1) := by decide +kernel
theorem dX1_add_80 : decode cX1_add 80 = .ok (.ireturn, 1) := by decide +kernel
theorem dX1_takeBack_0 : decode cX1_takeBack 0 = .ok (.iload_n 1, 1) := by decide +kernel
theorem dX1_takeBack_1 : decode cX1_takeBack 1 = .ok (.ifCond .lt 21, 3) := by decide +kernel
theorem dX1_takeBack_4 : decode cX1_takeBack 4 = .ok (.iload_n 1, 1) := by decide +kernel
theorem dX1_takeBack_5 : decode cX1_takeBack 5 = .ok (.aload_n 0, 1) := by decide +kernel
theorem dX1_takeBack_6 : decode cX1_takeBack 6 = .ok (.getfield 27, 3) := by decide +kernel
theorem dX1_takeBack_9 : decode cX1_takeBack 9 = .ok (.if_icmp .ge 13, 3) := by decide +kernel
theorem dX1_takeBack_12 : decode cX1_takeBack 12 = .ok (.aload_n 0, 1) := by decide +kernel
theorem dX1_takeBack_13 : decode cX1_takeBack 13 = .ok (.getfield 24, 3) := by decide +kernel
theorem dX1_takeBack_16 : decode cX1_takeBack 16 = .ok (.iload_n 1, 1) := by decide +kernel
theorem dX1_takeBack_17 : decode cX1_takeBack 17 = .ok (.iaload, 1) := by decide +kernel
theorem dX1_takeBack_18 : decode cX1_takeBack 18 = .ok (.iconst (-1), 1) := by decide +kernel
theorem dX1_takeBack_19 : decode cX1_takeBack 19 = .ok (.if_icmp .eq 5, 3) := by decide +kernel
theorem dX1_takeBack_22 : decode cX1_takeBack 22 = .ok (.iconst 0, 1) := by decide +kernel
theorem dX1_takeBack_23 : decode cX1_takeBack 23 = .ok (.ireturn, 1) := by decide +kernel
theorem dX1_takeBack_24 : decode cX1_takeBack 24 = .ok (.aload_n 0, 1) := by decide +kernel
theorem dX1_takeBack_25 : decode cX1_takeBack 25 = .ok (.getfield 24, 3) := by decide +kernel
theorem dX1_takeBack_28 : decode cX1_takeBack 28 = .ok (.iload_n 1, 1) := by decide +kernel
theorem dX1_takeBack_29 : decode cX1_takeBack 29 = .ok (.aload_n 0, 1) := by decide +kernel
theorem dX1_takeBack_30 : decode cX1_takeBack 30 = .ok (.getfield 31, 3) := by decide +kernel
theorem dX1_takeBack_33 : decode cX1_takeBack 33 = .ok (.iastore, 1) := by decide +kernel
theorem dX1_takeBack_34 : decode cX1_takeBack 34 = .ok (.iconst 1, 1) := by decide +kernel
theorem dX1_takeBack_35 : decode cX1_takeBack 35 = .ok (.ireturn, 1) := by decide +kernel
theorem dX1_sum_0 : decode cX1_sum 0 = .ok (.iconst 0, 1) := by decide +kernel
theorem dX1_sum_1 : decode cX1_sum 1 = .ok (.istore 5, 2) := by decide +kernel
theorem dX1_sum_3 : decode cX1_sum 3 = .ok (.iload_n 2, 1) := by decide +kernel
theorem dX1_sum_4 : decode cX1_sum 4 = .ok (.istore 6, 2) := by decide +kernel
theorem dX1_sum_6 : decode cX1_sum 6 = .ok (.iload 6, 2) := by decide +kernel
theorem dX1_sum_8 : decode cX1_sum 8 = .ok (.iload_n 3, 1) := by decide +kernel
theorem dX1_sum_9 : decode cX1_sum 9 = .ok (.if_icmp .gt 27, 3) := by decide +kernel
theorem dX1_sum_12 : decode cX1_sum 12 = .ok (.iload 5, 2) := by decide +kernel
theorem dX1_sum_14 : decode cX1_sum 14 = .ok (.iconst 0, 1) := by decide +kernel
theorem dX1_sum_15 : decode cX1_sum 15 = .ok (.aload_n 0, 1) := by decide +kernel
theorem dX1_sum_16 : decode cX1_sum 16 = .ok (.iload_n 1, 1) := by decide +kernel
theorem dX1_sum_17 : decode cX1_sum 17 = .ok (.iload 6, 2) := by decide +kernel
theorem dX1_sum_19 : decode cX1_sum 19 = .ok (.iload 4, 2) := by decide +kernel
theorem dX1_sum_21 : decode cX1_sum 21 = .ok (.invokevirtual 35, 3) := by decide +kernel
theorem dX1_sum_24 : decode cX1_sum 24 = .ok (.invokestatic 39, 3) := by decide +kernel
theorem dX1_sum_27 : decode cX1_sum 27 = .ok (.iadd, 1) := by decide +kernel
theorem dX1_sum_28 : decode cX1_sum 28 = .ok (.istore 5, 2) := by decide +kernel
theorem dX1_sum_30 : decode cX1_sum 30 = .ok (.iinc 6 1, 3) := by decide +kernel
theorem dX1_sum_33 : decode cX1_sum 33 = .ok (.goto (-27), 3) := by decide +kernel
theorem dX1_sum_36 : decode cX1_sum 36 = .ok (.iload 5, 2) := by decide +kernel
theorem dX1_sum_38 : decode cX1_sum 38 = .ok (.ireturn, 1) := by decide +kernel
theorem dX1_known_0 : decode cX1_known 0 = .ok (.aload_n 0, 1) := by decide +kernel
theorem dX1_known_1 : decode cX1_known 1 = .ok (.getfield 27, 3) := by decide +kernel
theorem dX1_known_4 : decode cX1_known 4 = .ok (.iconst 1, 1) := by decide +kernel
theorem dX1_known_5 : decode cX1_known 5 = .ok (.isub, 1) := by decide +kernel
theorem dX1_known_6 : decode cX1_known 6 = .ok (.istore 4, 2) := by decide +kernel
theorem dX1_known_8 : decode cX1_known 8 = .ok (.iload 4, 2) := by decide +kernel
theorem dX1_known_10 : decode cX1_known 10 = .ok (.ifCond .lt 49, 3) := by decide +kernel
theorem dX1_known_13 : decode cX1_known 13 = .ok (.aload_n 0, 1) := by decide +kernel
theorem dX1_known_14 : decode cX1_known 14 = .ok (.getfield 11, 3) := by decide +kernel
theorem dX1_known_17 : decode cX1_known 17 = .ok (.iload 4, 2) := by decide +kernel
theorem dX1_known_19 : decode cX1_known 19 = .ok (.iaload, 1) := by decide +kernel
theorem dX1_known_20 : decode cX1_known 20 = .ok (.iload_n 1, 1) := by decide +kernel
theorem dX1_known_21 : decode cX1_known 21 = .ok (.if_icmp .ne 32, 3) := by decide +kernel
theorem dX1_known_24 : decode cX1_known 24 = .ok (.aload_n 0, 1) := by decide +kernel
theorem dX1_known_25 : decode cX1_known 25 = .ok (.getfield 15, 3) := by decide +kernel
theorem dX1_known_28 : decode cX1_known 28 = .ok (.iload 4, 2) := by decide +kernel
theorem dX1_known_30 : decode cX1_known 30 = .ok (.iaload, 1) := by decide +kernel
theorem dX1_known_31 : decode cX1_known 31 = .ok (.iload_n 2, 1) := by decide +kernel
theorem dX1_known_32 : decode cX1_known 32 = .ok (.if_icmp .ne 21, 3) := by decide +kernel
theorem dX1_known_35 : decode cX1_known 35 = .ok (.aload_n 0, 1) := by decide +kernel
theorem dX1_known_36 : decode cX1_known 36 = .ok (.iload 4, 2) := by decide +kernel
theorem dX1_known_38 : decode cX1_known 38 = .ok (.iload_n 3, 1) := by decide +kernel
theorem dX1_known_39 : decode cX1_known 39 = .ok (.invokevirtual 45, 3) := by decide +kernel
theorem dX1_known_42 : decode cX1_known 42 = .ok (.ifCond .eq 11, 3) := by decide +kernel
theorem dX1_known_45 : decode cX1_known 45 = .ok (.aload_n 0, 1) := by decide +kernel
theorem dX1_known_46 : decode cX1_known 46 = .ok (.getfield 18, 3) := by decide +kernel
theorem dX1_known_49 : decode cX1_known 49 = .ok (.iload 4, 2) := by decide +kernel
theorem dX1_known_51 : decode cX1_known 51 = .ok (.iaload, 1) := by decide +kernel
theorem dX1_known_52 : decode cX1_known 52 = .ok (.ireturn, 1) := by decide +kernel
theorem dX1_known_53 : decode cX1_known 53 = .ok (.iinc 4 (-1), 3) := by decide +kernel
theorem dX1_known_56 : decode cX1_known 56 = .ok (.goto (-48), 3) := by decide +kernel
theorem dX1_known_59 : decode cX1_known 59 = .ok (.iconst (-1), 1) := by decide +kernel
theorem dX1_known_60 : decode cX1_known 60 = .ok (.ireturn, 1) := by decide +kernel
theorem dX1_isKnown_0 : decode cX1_isKnown 0 = .ok (.aload_n 0, 1) := by decide +kernel
theorem dX1_isKnown_1 : decode cX1_isKnown 1 = .ok (.getfield 24, 3) := by decide +kernel
theorem dX1_isKnown_4 : decode cX1_isKnown 4 = .ok (.iload_n 1, 1) := by decide +kernel
theorem dX1_isKnown_5 : decode cX1_isKnown 5 = .ok (.iaload, 1) := by decide +kernel
theorem dX1_isKnown_6 : decode cX1_isKnown 6 = .ok (.iconst (-1), 1) := by decide +kernel
theorem dX1_isKnown_7 : decode cX1_isKnown 7 = .ok (.if_icmp .eq 17, 3) := by decide +kernel
theorem dX1_isKnown_10 : decode cX1_isKnown 10 = .ok (.aload_n 0, 1) := by decide +kernel
theorem dX1_isKnown_11 : decode cX1_isKnown 11 = .ok (.getfield 24, 3) := by decide +kernel
theorem dX1_isKnown_14 : decode cX1_isKnown 14 = .ok (.iload_n 1, 1) := by decide +kernel
theorem dX1_isKnown_15 : decode cX1_isKnown 15 = .ok (.iaload, 1) := by decide +kernel
theorem dX1_isKnown_16 : decode cX1_isKnown 16 = .ok (.iload_n 2, 1) := by decide +kernel
theorem dX1_isKnown_17 : decode cX1_isKnown 17 = .ok (.if_icmp .gt 7, 3) := by decide +kernel
theorem dX1_isKnown_20 : decode cX1_isKnown 20 = .ok (.iconst 1, 1) := by decide +kernel
theorem dX1_isKnown_21 : decode cX1_isKnown 21 = .ok (.goto 4, 3) := by decide +kernel
theorem dX1_isKnown_24 : decode cX1_isKnown 24 = .ok (.iconst 0, 1) := by decide +kernel
theorem dX1_isKnown_25 : decode cX1_isKnown 25 = .ok (.istore_n 3, 1) := by decide +kernel
theorem dX1_isKnown_26 : decode cX1_isKnown 26 = .ok (.aload_n 0, 1) := by decide +kernel
theorem dX1_isKnown_27 : decode cX1_isKnown 27 = .ok (.getfield 21, 3) := by decide +kernel
theorem dX1_isKnown_30 : decode cX1_isKnown 30 = .ok (.iload_n 1, 1) := by decide +kernel
theorem dX1_isKnown_31 : decode cX1_isKnown 31 = .ok (.iaload, 1) := by decide +kernel
theorem dX1_isKnown_32 : decode cX1_isKnown 32 = .ok (.iload_n 2, 1) := by decide +kernel
theorem dX1_isKnown_33 : decode cX1_isKnown 33 = .ok (.if_icmp .gt 11, 3) := by decide +kernel
theorem dX1_isKnown_36 : decode cX1_isKnown 36 = .ok (.iload_n 3, 1) := by decide +kernel
theorem dX1_isKnown_37 : decode cX1_isKnown 37 = .ok (.ifCond .ne 7, 3) := by decide +kernel
theorem dX1_isKnown_40 : decode cX1_isKnown 40 = .ok (.iconst 1, 1) := by decide +kernel
theorem dX1_isKnown_41 : decode cX1_isKnown 41 = .ok (.goto 4, 3) := by decide +kernel
theorem dX1_isKnown_44 : decode cX1_isKnown 44 = .ok (.iconst 0, 1) := by decide +kernel
theorem dX1_isKnown_45 : decode cX1_isKnown 45 = .ok (.ireturn, 1) := by decide +kernel
theorem dX1_compare_0 : decode cX1_compare 0 = .ok (.iload_n 2, 1) := by decide +kernel
theorem dX1_compare_1 : decode cX1_compare 1 = .ok (.ineg, 1) := by decide +kernel
theorem dX1_compare_2 : decode cX1_compare 2 = .ok (.istore 4, 2) := by decide +kernel
theorem dX1_compare_4 : decode cX1_compare 4 = .ok (.iload 4, 2) := by decide +kernel
theorem dX1_compare_6 : decode cX1_compare 6 = .ok (.iload_n 2, 1) := by decide +kernel
theorem dX1_compare_7 : decode cX1_compare 7 = .ok (.if_icmp .ge 23, 3) := by decide +kernel
theorem dX1_compare_10 : decode cX1_compare 10 = .ok (.aload_n 0, 1) := by decide +kernel
theorem dX1_compare_11 : decode cX1_compare 11 = .ok (.iload_n 1, 1) := by decide +kernel
theorem dX1_compare_12 : decode cX1_compare 12 = .ok (.iload 4, 2) := by decide +kernel
theorem dX1_compare_14 : decode cX1_compare 14 = .ok (.iload_n 3, 1) := by decide +kernel
theorem dX1_compare_15 : decode cX1_compare 15 = .ok (.invokevirtual 35, 3) := by decide +kernel
theorem dX1_compare_18 : decode cX1_compare 18 = .ok (.iconst (-1), 1) := by decide +kernel
theorem dX1_compare_19 : decode cX1_compare 19 = .ok (.if_icmp .ne 5, 3) := by decide +kernel
theorem dX1_compare_22 : decode cX1_compare 22 = .ok (.iconst 0, 1) := by decide +kernel
theorem dX1_compare_23 : decode cX1_compare 23 = .ok (.ireturn, 1) := by decide +kernel
theorem dX1_compare_24 : decode cX1_compare 24 = .ok (.iinc 4 1, 3) := by decide +kernel
theorem dX1_compare_27 : decode cX1_compare 27 = .ok (.goto (-23), 3) := by decide +kernel
theorem dX1_compare_30 : decode cX1_compare 30 = .ok (.aload_n 0, 1) := by decide +kernel
theorem dX1_compare_31 : decode cX1_compare 31 = .ok (.iload_n 1, 1) := by decide +kernel
theorem dX1_compare_32 : decode cX1_compare 32 = .ok (.iload_n 2, 1) := by decide +kernel
theorem dX1_compare_33 : decode cX1_compare 33 = .ok (.ineg, 1) := by decide +kernel
theorem dX1_compare_34 : decode cX1_compare 34 = .ok (.iconst (-1), 1) := by decide +kernel
theorem dX1_compare_35 : decode cX1_compare 35 = .ok (.iload_n 3, 1) := by decide +kernel
theorem dX1_compare_36 : decode cX1_compare 36 = .ok (.invokevirtual 49, 3) := by decide +kernel
theorem dX1_compare_39 : decode cX1_compare 39 = .ok (.i2l, 1) := by decide +kernel
theorem dX1_compare_40 : decode cX1_compare 40 = .ok (.lstore 4, 2) := by decide +kernel
theorem dX1_compare_42 : decode cX1_compare 42 = .ok (.aload_n 0, 1) := by decide +kernel
theorem dX1_compare_43 : decode cX1_compare 43 = .ok (.iload_n 1, 1) := by decide +kernel
theorem dX1_compare_44 : decode cX1_compare 44 = .ok (.iconst 0, 1) := by decide +kernel
theorem dX1_compare_45 : decode cX1_compare 45 = .ok (.iload_n 2, 1) := by decide +kernel
theorem dX1_compare_46 : decode cX1_compare 46 = .ok (.iconst 1, 1) := by decide +kernel
theorem dX1_compare_47 : decode cX1_compare 47 = .ok (.isub, 1) := by decide +kernel
theorem dX1_compare_48 : decode cX1_compare 48 = .ok (.iload_n 3, 1) := by decide +kernel
theorem dX1_compare_49 : decode cX1_compare 49 = .ok (.invokevirtual 49, 3) := by decide +kernel
theorem dX1_compare_52 : decode cX1_compare 52 = .ok (.i2l, 1) := by decide +kernel
theorem dX1_compare_53 : decode cX1_compare 53 = .ok (.lstore 6, 2) := by decide +kernel
theorem dX1_compare_55 : decode cX1_compare 55 = .ok (.lload 6, 2) := by decide +kernel
theorem dX1_compare_57 : decode cX1_compare 57 = .ok (.lload 4, 2) := by decide +kernel
theorem dX1_compare_59 : decode cX1_compare 59 = .ok (.lsub, 1) := by decide +kernel
theorem dX1_compare_60 : decode cX1_compare 60 = .ok (.lstore 8, 2) := by decide +kernel
theorem dX1_compare_62 : decode cX1_compare 62 = .ok (.lload 8, 2) := by decide +kernel
theorem dX1_compare_64 : decode cX1_compare 64 = .ok (.lload 8, 2) := by decide +kernel
theorem dX1_compare_66 : decode cX1_compare 66 = .ok (.lmul, 1) := by decide +kernel
theorem dX1_compare_67 : decode cX1_compare 67 = .ok (.ldc2_w 53, 3) := by decide +kernel
theorem dX1_compare_70 : decode cX1_compare 70 = .ok (.lload 6, 2) := by decide +kernel
theorem dX1_compare_72 : decode cX1_compare 72 = .ok (.lload 4, 2) := by decide +kernel
theorem dX1_compare_74 : decode cX1_compare 74 = .ok (.ladd, 1) := by decide +kernel
theorem dX1_compare_75 : decode cX1_compare 75 = .ok (.lmul, 1) := by decide +kernel
theorem dX1_compare_76 : decode cX1_compare 76 = .ok (.lcmp, 1) := by decide +kernel
theorem dX1_compare_77 : decode cX1_compare 77 = .ok (.ifCond .le 7, 3) := by decide +kernel
theorem dX1_compare_80 : decode cX1_compare 80 = .ok (.iconst 1, 1) := by decide +kernel
theorem dX1_compare_81 : decode cX1_compare 81 = .ok (.goto 4, 3) := by decide +kernel
theorem dX1_compare_84 : decode cX1_compare 84 = .ok (.iconst 2, 1) := by decide +kernel
theorem dX1_compare_85 : decode cX1_compare 85 = .ok (.ireturn, 1) := by decide +kernel
theorem dX2_init_0 : decode cX2_init 0 = .ok (.aload_n 0, 1) := by decide +kernel
theorem dX2_init_1 : decode cX2_init 1 = .ok (.invokespecial 5, 3) := by decide +kernel
theorem dX2_init_4 : decode cX2_init 4 = .ok (.aload_n 0, 1) := by decide +kernel
theorem dX2_init_5 : decode cX2_init 5 = .ok (.sipush 801, 3) := by decide +kernel
theorem dX2_init_8 : decode cX2_init 8 = .ok (.newarray .int, 2) := by decide +kernel
theorem dX2_init_10 : decode cX2_init 10 = .ok (.putfield 13, 3) := by decide +kernel
theorem dX2_init_13 : decode cX2_init 13 = .ok (.aload_n 0, 1) := by decide +kernel
theorem dX2_init_14 : decode cX2_init 14 = .ok (.sipush 801, 3) := by decide +kernel
theorem dX2_init_17 : decode cX2_init 17 = .ok (.newarray .int, 2) := by decide +kernel
theorem dX2_init_19 : decode cX2_init 19 = .ok (.putfield 17, 3) := by decide +kernel
theorem dX2_init_22 : decode cX2_init 22 = .ok (.aload_n 0, 1) := by decide +kernel
theorem dX2_init_23 : decode cX2_init 23 = .ok (.sipush 801, 3) := by decide +kernel
theorem dX2_init_26 : decode cX2_init 26 = .ok (.newarray .int, 2) := by decide +kernel
theorem dX2_init_28 : decode cX2_init 28 = .ok (.putfield 20, 3) := by decide +kernel
theorem dX2_init_31 : decode cX2_init 31 = .ok (.aload_n 0, 1) := by decide +kernel
theorem dX2_init_32 : decode cX2_init 32 = .ok (.iconst 0, 1) := by decide +kernel
theorem dX2_init_33 : decode cX2_init 33 = .ok (.putfield 23, 3) := by decide +kernel
theorem dX2_init_36 : decode cX2_init 36 = .ok (.aload_n 0, 1) := by decide +kernel
theorem dX2_init_37 : decode cX2_init 37 = .ok (.iconst 0, 1) := by decide +kernel
theorem dX2_init_38 : decode cX2_init 38 = .ok (.putfield 27, 3) := by decide +kernel
theorem dX2_init_41 : decode cX2_init 41 = .ok (.aload_n 0, 1) := by decide +kernel
theorem dX2_init_42 : decode cX2_init 42 = .ok (.iconst 0, 1) := by decide +kernel
theorem dX2_init_43 : decode cX2_init 43 = .ok (.putfield 30, 3) := by decide +kernel
theorem dX2_init_46 : decode cX2_init 46 = .ok (.aload_n 0, 1) := by decide +kernel
theorem dX2_init_47 : decode cX2_init 47 = .ok (.aload_n 1, 1) := by decide +kernel
theorem dX2_init_48 : decode cX2_init 48 = .ok (.putfield 33, 3) := by decide +kernel
theorem dX2_init_51 : decode cX2_init 51 = .ok (.return_, 1) := by decide +kernel
theorem dX2_sortOf_0 : decode cX2_sortOf 0 = .ok (.iload_n 1, 1) := by decide +kernel
theorem dX2_sortOf_1 : decode cX2_sortOf 1 = .ok (.sipush 801, 3) := by decide +kernel
theorem dX2_sortOf_4 : decode cX2_sortOf 4 = .ok (.if_icmp .ge 12, 3) := by decide +kernel
theorem dX2_sortOf_7 : decode cX2_sortOf 7 = .ok (.aload_n 0, 1) := by decide +kernel
theorem dX2_sortOf_8 : decode cX2_sortOf 8 = .ok (.getfield 13, 3) := by decide +kernel
theorem dX2_sortOf_11 : decode cX2_sortOf 11 = .ok (.iload_n 1, 1) := by decide +kernel
theorem dX2_sortOf_12 : decode cX2_sortOf 12 = .ok (.iaload, 1) := by decide +kernel
theorem dX2_sortOf_13 : decode cX2_sortOf 13 = .ok (.goto 5, 3) := by decide +kernel
theorem dX2_sortOf_16 : decode cX2_sortOf 16 = .ok (.bipush 15, 2) := by decide +kernel
theorem dX2_sortOf_18 : decode cX2_sortOf 18 = .ok (.ireturn, 1) := by decide +kernel
theorem dX2_startOf_0 : decode cX2_startOf 0 = .ok (.iload_n 1, 1) := by decide +kernel
theorem dX2_startOf_1 : decode cX2_startOf 1 = .ok (.sipush 801, 3) := by decide +kernel
theorem dX2_startOf_4 : decode cX2_startOf 4 = .ok (.if_icmp .ge 12, 3) := by decide +kernel
theorem dX2_startOf_7 : decode cX2_startOf 7 = .ok (.aload_n 0, 1) := by decide +kernel
theorem dX2_startOf_8 : decode cX2_startOf 8 = .ok (.getfield 17, 3) := by decide +kernel
theorem dX2_startOf_11 : decode cX2_startOf 11 = .ok (.iload_n 1, 1) := by decide +kernel
theorem dX2_startOf_12 : decode cX2_startOf 12 = .ok (.iaload, 1) := by decide +kernel
theorem dX2_startOf_13 : decode cX2_startOf 13 = .ok (.goto 4, 3) := by decide +kernel
theorem dX2_startOf_16 : decode cX2_startOf 16 = .ok (.iconst (-1), 1) := by decide +kernel
theorem dX2_startOf_17 : decode cX2_startOf 17 = .ok (.ireturn, 1) := by decide +kernel
theorem dX2_valueOf_0 : decode cX2_valueOf 0 = .ok (.iload_n 1, 1) := by decide +kernel
theorem dX2_valueOf_1 : decode cX2_valueOf 1 = .ok (.sipush 801, 3) := by decide +kernel
theorem dX2_valueOf_4 : decode cX2_valueOf 4 = .ok (.if_icmp .ge 12, 3) := by decide +kernel
theorem dX2_valueOf_7 : decode cX2_valueOf 7 = .ok (.aload_n 0, 1) := by decide +kernel
theorem dX2_valueOf_8 : decode cX2_valueOf 8 = .ok (.getfield 20, 3) := by decide +kernel
theorem dX2_valueOf_11 : decode cX2_valueOf 11 = .ok (.iload_n 1, 1) := by decide +kernel
theorem dX2_valueOf_12 : decode cX2_valueOf 12 = .ok (.iaload, 1) := by decide +kernel
theorem dX2_valueOf_13 : decode cX2_valueOf 13 = .ok (.goto 4, 3) := by decide +kernel
theorem dX2_valueOf_16 : decode cX2_valueOf 16 = .ok (.iconst 0, 1) := by decide +kernel
theorem dX2_valueOf_17 : decode cX2_valueOf 17 = .ok (.ireturn, 1) := by decide +kernel
theorem dX2_cut_0 : decode cX2_cut 0 = .ok (.aload_n 0, 1) := by decide +kernel
theorem dX2_cut_1 : decode cX2_cut 1 = .ok (.iconst 0, 1) := by decide +kernel
theorem dX2_cut_2 : decode cX2_cut 2 = .ok (.putfield 27, 3) := by decide +kernel
theorem dX2_cut_5 : decode cX2_cut 5 = .ok (.bipush 11, 2) := by decide +kernel
theorem dX2_cut_7 : decode cX2_cut 7 = .ok (.istore_n 1, 1) := by decide +kernel
theorem dX2_cut_8 : decode cX2_cut 8 = .ok (.iconst 0, 1) := by decide +kernel
theorem dX2_cut_9 : decode cX2_cut 9 = .ok (.istore_n 2, 1) := by decide +kernel
theorem dX2_cut_10 : decode cX2_cut 10 = .ok (.iload_n 2, 1) := by decide +kernel
theorem dX2_cut_11 : decode cX2_cut 11 = .ok (.sipush 801, 3) := by decide +kernel
theorem dX2_cut_14 : decode cX2_cut 14 = .ok (.if_icmp .ge 64, 3) := by decide +kernel
theorem dX2_cut_17 : decode cX2_cut 17 = .ok (.iload_n 1, 1) := by decide +kernel
theorem dX2_cut_18 : decode cX2_cut 18 = .ok (.bipush 15, 2) := by decide +kernel
theorem dX2_cut_20 : decode cX2_cut 20 = .ok (.if_icmp .eq 58, 3) := by decide +kernel
theorem dX2_cut_23 : decode cX2_cut 23 = .ok (.aload_n 0, 1) := by decide +kernel
theorem dX2_cut_24 : decode cX2_cut 24 = .ok (.invokevirtual 37, 3) := by decide +kernel
theorem dX2_cut_27 : decode cX2_cut 27 = .ok (.aload_n 0, 1) := by decide +kernel
theorem dX2_cut_28 : decode cX2_cut 28 = .ok (.aload_n 0, 1) := by decide +kernel
theorem dX2_cut_29 : decode cX2_cut 29 = .ok (.getfield 27, 3) := by decide +kernel
theorem dX2_cut_32 : decode cX2_cut 32 = .ok (.putfield 23, 3) := by decide +kernel
theorem dX2_cut_35 : decode cX2_cut 35 = .ok (.aload_n 0, 1) := by decide +kernel
theorem dX2_cut_36 : decode cX2_cut 36 = .ok (.iconst 0, 1) := by decide +kernel
theorem dX2_cut_37 : decode cX2_cut 37 = .ok (.putfield 30, 3) := by decide +kernel
theorem dX2_cut_40 : decode cX2_cut 40 = .ok (.aload_n 0, 1) := by decide +kernel
theorem dX2_cut_41 : decode cX2_cut 41 = .ok (.invokevirtual 40, 3) := by decide +kernel
theorem dX2_cut_44 : decode cX2_cut 44 = .ok (.istore_n 1, 1) := by decide +kernel
theorem dX2_cut_45 : decode cX2_cut 45 = .ok (.aload_n 0, 1) := by decide +kernel
theorem dX2_cut_46 : decode cX2_cut 46 = .ok (.getfield 13, 3) := by decide +kernel
theorem dX2_cut_49 : decode cX2_cut 49 = .ok (.iload_n 2, 1) := by decide +kernel
theorem dX2_cut_50 : decode cX2_cut 50 = .ok (.iload_n 1, 1) := by decide +kernel
theorem dX2_cut_51 : decode cX2_cut 51 = .ok (.iastore, 1) := by decide +kernel
theorem dX2_cut_52 : decode cX2_cut 52 = .ok (.aload_n 0, 1) := by decide +kernel
theorem dX2_cut_53 : decode cX2_cut 53 = .ok (.getfield 17, 3) := by decide +kernel
theorem dX2_cut_56 : decode cX2_cut 56 = .ok (.iload_n 2, 1) := by decide +kernel
theorem dX2_cut_57 : decode cX2_cut 57 = .ok (.aload_n 0, 1) := by decide +kernel
theorem dX2_cut_58 : decode cX2_cut 58 = .ok (.getfield 23, 3) := by decide +kernel
theorem dX2_cut_61 : decode cX2_cut 61 = .ok (.iastore, 1) := by decide +kernel
theorem dX2_cut_62 : decode cX2_cut 62 = .ok (.aload_n 0, 1) := by decide +kernel
theorem dX2_cut_63 : decode cX2_cut 63 = .ok (.getfield 20, 3) := by decide +kernel
theorem dX2_cut_66 : decode cX2_cut 66 = .ok (.iload_n 2, 1) := by decide +kernel
theorem dX2_cut_67 : decode cX2_cut 67 = .ok (.aload_n 0, 1) := by decide +kernel
theorem dX2_cut_68 : decode cX2_cut 68 = .ok (.getfield 30, 3) := by decide +kernel
theorem dX2_cut_71 : decode cX2_cut 71 = .ok (.iastore, 1) := by decide +kernel
theorem dX2_cut_72 : decode cX2_cut 72 = .ok (.iinc 2 1, 3) := by decide +kernel
theorem dX2_cut_75 : decode cX2_cut 75 = .ok (.goto (-65), 3) := by decide +kernel
theorem dX2_cut_78 : decode cX2_cut 78 = .ok (.return_, 1) := by decide +kernel
theorem dX2_skipBlanks_0 : decode cX2_skipBlanks 0 = .ok (.aload_n 0, 1) := by decide +kernel
theorem dX2_skipBlanks_1 : decode cX2_skipBlanks 1 = .ok (.getfield 27, 3) := by decide +kernel
theorem dX2_skipBlanks_4 : decode cX2_skipBlanks 4 = .ok (.aload_n 0, 1) := by decide +kernel
theorem dX2_skipBlanks_5 : decode cX2_skipBlanks 5 = .ok (.getfield 33, 3) := by decide +kernel
theorem dX2_skipBlanks_8 : decode cX2_skipBlanks 8 = .ok (.invokevirtual 44, 3) := by decide +kernel
theorem dX2_skipBlanks_11 : decode cX2_skipBlanks 11 = .ok (.if_icmp .ge 33, 3) := by decide +kernel
theorem dX2_skipBlanks_14 : decode cX2_skipBlanks 14 = .ok (.aload_n 0, 1) := by decide +kernel
theorem dX2_skipBlanks_15 : decode cX2_skipBlanks 15 = .ok (.getfield 33, 3) := by decide +kernel
theorem dX2_skipBlanks_18 : decode cX2_skipBlanks 18 = .ok (.aload_n 0, 1) := by decide +kernel
theorem dX2_skipBlanks_19 : decode cX2_skipBlanks 19 = .ok (.getfield 27, 3) := by decide +kernel
theorem dX2_skipBlanks_22 : decode cX2_skipBlanks 22 = .ok (.invokevirtual 47, 3) := by decide +kernel
theorem dX2_skipBlanks_25 : decode cX2_skipBlanks 25 = .ok (.invokestatic 51, 3) := by decide +kernel
theorem dX2_skipBlanks_28 : decode cX2_skipBlanks 28 = .ok (.ifCond .eq 16, 3) := by decide +kernel
theorem dX2_skipBlanks_31 : decode cX2_skipBlanks 31 = .ok (.aload_n 0, 1) := by decide +kernel
theorem dX2_skipBlanks_32 : decode cX2_skipBlanks 32 = .ok (.dup, 1) := by decide +kernel
theorem dX2_skipBlanks_33 : decode cX2_skipBlanks 33 = .ok (.getfield 27, 3) := by decide +kernel
theorem dX2_skipBlanks_36 : decode cX2_skipBlanks 36 = .ok (.iconst 1, 1) := by decide +kernel
theorem dX2_skipBlanks_37 : decode cX2_skipBlanks 37 = .ok (.iadd, 1) := by decide +kernel
theorem dX2_skipBlanks_38 : decode cX2_skipBlanks 38 = .ok (.putfield 27, 3) := by decide +kernel
theorem dX2_skipBlanks_41 : decode cX2_skipBlanks 41 = .ok (.goto (-41), 3) := by decide +kernel
theorem dX2_skipBlanks_44 : decode cX2_skipBlanks 44 = .ok (.return_, 1) := by decide +kernel
theorem dX2_read_0 : decode cX2_read 0 = .ok (.aload_n 0, 1) := by decide +kernel
theorem dX2_read_1 : decode cX2_read 1 = .ok (.getfield 33, 3) := by decide +kernel
theorem dX2_read_4 : decode cX2_read 4 = .ok (.aload_n 0, 1) := by decide +kernel
theorem dX2_read_5 : decode cX2_read 5 = .ok (.getfield 23, 3) := by decide +kernel
theorem dX2_read_8 : decode cX2_read 8 = .ok (.invokevirtual 47, 3) := by decide +kernel
theorem dX2_read_11 : decode cX2_read 11 = .ok (.istore_n 1, 1) := by decide +kernel
theorem dX2_read_12 : decode cX2_read 12 = .ok (.iload_n 1, 1) := by decide +kernel
theorem dX2_read_13 : decode cX2_read 13 = .ok (.iconst (-1), 1) := by decide +kernel
theorem dX2_read_14 : decode cX2_read 14 = .ok (.if_icmp .ne 6, 3) := by decide +kernel
theorem dX2_read_17 : decode cX2_read 17 = .ok (.bipush 15, 2) := by decide +kernel
theorem dX2_read_19 : decode cX2_read 19 = .ok (.ireturn, 1) := by decide +kernel
theorem dX2_read_20 : decode cX2_read 20 = .ok (.iload_n 1, 1) := by decide +kernel
theorem dX2_read_21 : decode cX2_read 21 = .ok (.bipush 115, 2) := by decide +kernel
theorem dX2_read_23 : decode cX2_read 23 = .ok (.if_icmp .ne 13, 3) := by decide +kernel
theorem dX2_read_26 : decode cX2_read 26 = .ok (.aload_n 0, 1) := by decide +kernel
theorem dX2_read_27 : decode cX2_read 27 = .ok (.invokevirtual 55, 3) := by decide +kernel
theorem dX2_read_30 : decode cX2_read 30 = .ok (.ifCond .eq 6, 3) := by decide +kernel
theorem dX2_read_33 : decode cX2_read 33 = .ok (.bipush 12, 2) := by decide +kernel
theorem dX2_read_35 : decode cX2_read 35 = .ok (.ireturn, 1) := by decide +kernel
theorem dX2_read_36 : decode cX2_read 36 = .ok (.iload_n 1, 1) := by decide +kernel
theorem dX2_read_37 : decode cX2_read 37 = .ok (.invokestatic 59, 3) := by decide +kernel
theorem dX2_read_40 : decode cX2_read 40 = .ok (.ifCond .eq 12, 3) := by decide +kernel
theorem dX2_read_43 : decode cX2_read 43 = .ok (.aload_n 0, 1) := by decide +kernel
theorem dX2_read_44 : decode cX2_read 44 = .ok (.invokevirtual 62, 3) := by decide +kernel
theorem dX2_read_47 : decode cX2_read 47 = .ok (.aload_n 0, 1) := by decide +kernel
theorem dX2_read_48 : decode cX2_read 48 = .ok (.invokevirtual 65, 3) := by decide +kernel
theorem dX2_read_51 : decode cX2_read 51 = .ok (.ireturn, 1) := by decide +kernel
theorem dX2_read_52 : decode cX2_read 52 = .ok (.iload_n 1, 1) := by decide +kernel
theorem dX2_read_53 : decode cX2_read 53 = .ok (.invokestatic 68, 3) := by decide +kernel
theorem dX2_read_56 : decode cX2_read 56 = .ok (.ifCond .eq 8, 3) := by decide +kernel
theorem dX2_read_59 : decode cX2_read 59 = .ok (.aload_n 0, 1) := by decide +kernel
theorem dX2_read_60 : decode cX2_read 60 = .ok (.invokevirtual 71, 3) := by decide +kernel
theorem dX2_read_63 : decode cX2_read 63 = .ok (.ireturn, 1) := by decide +kernel
theorem dX2_read_64 : decode cX2_read 64 = .ok (.aload_n 0, 1) := by decide +kernel
theorem dX2_read_65 : decode cX2_read 65 = .ok (.aload_n 0, 1) := by decide +kernel
theorem dX2_read_66 : decode cX2_read 66 = .ok (.getfield 23, 3) := by decide +kernel
theorem dX2_read_69 : decode cX2_read 69 = .ok (.iconst 1, 1) := by decide +kernel
theorem dX2_read_70 : decode cX2_read 70 = .ok (.iadd, 1) := by decide +kernel
theorem dX2_read_71 : decode cX2_read 71 = .ok (.putfield 27, 3) := by decide +kernel
theorem dX2_read_74 : decode cX2_read 74 = .ok (.iload_n 1, 1) := by decide +kernel
theorem dX2_read_75 : decode cX2_read 75 = .ok (.bipush 59, 2) := by decide +kernel
theorem dX2_read_77 : decode cX2_read 77 = .ok (.if_icmp .ne 8, 3) := by decide +kernel
theorem dX2_read_80 : decode cX2_read 80 = .ok (.bipush 14, 2) := by decide +kernel
theorem dX2_read_82 : decode cX2_read 82 = .ok (.goto 5, 3) := by decide +kernel
theorem dX2_read_85 : decode cX2_read 85 = .ok (.bipush 16, 2) := by decide +kernel
theorem dX2_read_87 : decode cX2_read 87 = .ok (.ireturn, 1) := by decide +kernel
theorem dX2_readStreet_0 : decode cX2_readStreet 0 = .ok (.aload_n 0, 1) := by decide +kernel
theorem dX2_readStreet_1 : decode cX2_readStreet 1 = .ok (.aload_n 0, 1) := by decide +kernel
theorem dX2_readStreet_2 : decode cX2_readStreet 2 = .ok (.getfield 23, 3) := by decide +kernel
theorem dX2_readStreet_5 : decode cX2_readStreet 5 = .ok (.iconst 1, 1) := by decide +kernel
theorem dX2_readStreet_6 : decode cX2_readStreet 6 = .ok (.iadd, 1) := by decide +kernel
theorem dX2_readStreet_7 : decode cX2_readStreet 7 = .ok (.invokevirtual 74, 3) := by decide +kernel
theorem dX2_readStreet_10 : decode cX2_readStreet 10 = .ok (.istore_n 1, 1) := by decide +kernel
theorem dX2_readStreet_11 : decode cX2_readStreet 11 = .ok (.iload_n 1, 1) := by decide +kernel
theorem dX2_readStreet_12 : decode cX2_readStreet 12 = .ok (.iconst 1, 1) := by decide +kernel
theorem dX2_readStreet_13 : decode cX2_readStreet 13 = .ok (.if_icmp .lt 38, 3) := by decide +kernel
theorem dX2_readStreet_16 : decode cX2_readStreet 16 = .ok (.iload_n 1, 1) := by decide +kernel
theorem dX2_readStreet_17 : decode cX2_readStreet 17 = .ok (.iconst 2, 1) := by decide +kernel
theorem dX2_readStreet_18 : decode cX2_readStreet 18 = .ok (.if_icmp .gt 33, 3) := by decide +kernel
theorem dX2_readStreet_21 : decode cX2_readStreet 21 = .ok (.aload_n 0, 1) := by decide +kernel
theorem dX2_readStreet_22 : decode cX2_readStreet 22 = .ok (.getfield 30, 3) := by decide +kernel
theorem dX2_readStreet_25 : decode cX2_readStreet 25 = .ok (.bipush 16, 2) := by decide +kernel
theorem dX2_readStreet_27 : decode cX2_readStreet 27 = .ok (.if_icmp .ge 24, 3) := by decide +kernel
theorem dX2_readStreet_30 : decode cX2_readStreet 30 = .ok (.aload_n 0, 1) := by decide +kernel
theorem dX2_readStreet_31 : decode cX2_readStreet 31 = .ok (.getfield 33, 3) := by decide +kernel
theorem dX2_readStreet_34 : decode cX2_readStreet 34 = .ok (.aload_n 0, 1) := by decide +kernel
theorem dX2_readStreet_35 : decode cX2_readStreet 35 = .ok (.getfield 27, 3) := by decide +kernel
theorem dX2_readStreet_38 : decode cX2_readStreet 38 = .ok (.invokevirtual 47, 3) := by decide +kernel
theorem dX2_readStreet_41 : decode cX2_readStreet 41 = .ok (.invokestatic 59, 3) := by decide +kernel
theorem dX2_readStreet_44 : decode cX2_readStreet 44 = .ok (.ifCond .ne 7, 3) := by decide +kernel
theorem dX2_readStreet_47 : decode cX2_readStreet 47 = .ok (.iconst 1, 1) := by decide +kernel
theorem dX2_readStreet_48 : decode cX2_readStreet 48 = .ok (.goto 4, 3) := by decide +kernel
theorem dX2_readStreet_51 : decode cX2_readStreet 51 = .ok (.iconst 0, 1) := by decide +kernel
theorem dX2_readStreet_52 : decode cX2_readStreet 52 = .ok (.istore_n 2, 1) := by decide +kernel
theorem dX2_readStreet_53 : decode cX2_readStreet 53 = .ok (.iload_n 2, 1) := by decide +kernel
theorem dX2_readStreet_54 : decode cX2_readStreet 54 = .ok (.ifCond .ne 16, 3) := by decide +kernel
theorem dX2_readStreet_57 : decode cX2_readStreet 57 = .ok (.aload_n 0, 1) := by decide +kernel
theorem dX2_readStreet_58 : decode cX2_readStreet 58 = .ok (.aload_n 0, 1) := by decide +kernel
theorem dX2_readStreet_59 : decode cX2_readStreet 59 = .ok (.getfield 23, 3) := by decide +kernel
theorem dX2_readStreet_62 : decode cX2_readStreet 62 = .ok (.putfield 27, 3) := by decide +kernel
theorem dX2_readStreet_65 : decode cX2_readStreet 65 = .ok (.aload_n 0, 1) := by decide +kernel
theorem dX2_readStreet_66 : decode cX2_readStreet 66 = .ok (.iconst 0, 1) := by decide +kernel
theorem dX2_readStreet_67 : decode cX2_readStreet 67 = .ok (.putfield 30, 3) := by decide +kernel
theorem dX2_readStreet_70 : decode cX2_readStreet 70 = .ok (.iload_n 2, 1) := by decide +kernel
theorem dX2_readStreet_71 : decode cX2_readStreet 71 = .ok (.ireturn, 1) := by decide +kernel
theorem dX2_readNumber_0 : decode cX2_readNumber 0 = .ok (.aload_n 0, 1) := by decide +kernel
theorem dX2_readNumber_1 : decode cX2_readNumber 1 = .ok (.aload_n 0, 1) := by decide +kernel
theorem dX2_readNumber_2 : decode cX2_readNumber 2 = .ok (.getfield 23, 3) := by decide +kernel
theorem dX2_readNumber_5 : decode cX2_readNumber 5 = .ok (.invokevirtual 74, 3) := by decide +kernel
theorem dX2_readNumber_8 : decode cX2_readNumber 8 = .ok (.istore_n 1, 1) := by decide +kernel
theorem dX2_readNumber_9 : decode cX2_readNumber 9 = .ok (.iload_n 1, 1) := by decide +kernel
theorem dX2_readNumber_10 : decode cX2_readNumber 10 = .ok (.iconst 4, 1) := by decide +kernel
theorem dX2_readNumber_11 : decode cX2_readNumber 11 = .ok (.if_icmp .gt 25, 3) := by decide +kernel
theorem dX2_readNumber_14 : decode cX2_readNumber 14 = .ok (.aload_n 0, 1) := by decide +kernel
theorem dX2_readNumber_15 : decode cX2_readNumber 15 = .ok (.getfield 33, 3) := by decide +kernel
theorem dX2_readNumber_18 : decode cX2_readNumber 18 = .ok (.aload_n 0, 1) := by decide +kernel
theorem dX2_readNumber_19 : decode cX2_readNumber 19 = .ok (.getfield 27, 3) := by decide +kernel
theorem dX2_readNumber_22 : decode cX2_readNumber 22 = .ok (.invokevirtual 47, 3) := by decide +kernel
theorem dX2_readNumber_25 : decode cX2_readNumber 25 = .ok (.invokestatic 59, 3) := by decide +kernel
theorem dX2_readNumber_28 : decode cX2_readNumber 28 = .ok (.ifCond .ne 8, 3) := by decide +kernel
theorem dX2_readNumber_31 : decode cX2_readNumber 31 = .ok (.bipush 13, 2) := by decide +kernel
theorem dX2_readNumber_33 : decode cX2_readNumber 33 = .ok (.goto 5, 3) := by decide +kernel
theorem dX2_readNumber_36 : decode cX2_readNumber 36 = .ok (.bipush 16, 2) := by decide +kernel
theorem dX2_readNumber_38 : decode cX2_readNumber 38 = .ok (.ireturn, 1) := by decide +kernel
theorem dX2_readDigits_0 : decode cX2_readDigits 0 = .ok (.aload_n 0, 1) := by decide +kernel
theorem dX2_readDigits_1 : decode cX2_readDigits 1 = .ok (.iload_n 1, 1) := by decide +kernel
theorem dX2_readDigits_2 : decode cX2_readDigits 2 = .ok (.putfield 27, 3) := by decide +kernel
theorem dX2_readDigits_5 : decode cX2_readDigits 5 = .ok (.aload_n 0, 1) := by decide +kernel
theorem dX2_readDigits_6 : decode cX2_readDigits 6 = .ok (.getfield 27, 3) := by decide +kernel
theorem dX2_readDigits_9 : decode cX2_readDigits 9 = .ok (.aload_n 0, 1) := by decide +kernel
theorem dX2_readDigits_10 : decode cX2_readDigits 10 = .ok (.getfield 33, 3) := by decide +kernel
theorem dX2_readDigits_13 : decode cX2_readDigits 13 = .ok (.invokevirtual 44, 3) := by decide +kernel
theorem dX2_readDigits_16 : decode cX2_readDigits 16 = .ok (.if_icmp .ge 59, 3) := by decide +kernel
theorem dX2_readDigits_19 : decode cX2_readDigits 19 = .ok (.aload_n 0, 1) := by decide +kernel
theorem dX2_readDigits_20 : decode cX2_readDigits 20 = .ok (.getfield 33, 3) := by decide +kernel
theorem dX2_readDigits_23 : decode cX2_readDigits 23 = .ok (.aload_n 0, 1) := by decide +kernel
theorem dX2_readDigits_24 : decode cX2_readDigits 24 = .ok (.getfield 27, 3) := by decide +kernel
theorem dX2_readDigits_27 : decode cX2_readDigits 27 = .ok (.invokevirtual 47, 3) := by decide +kernel
theorem dX2_readDigits_30 : decode cX2_readDigits 30 = .ok (.invokestatic 68, 3) := by decide +kernel
theorem dX2_readDigits_33 : decode cX2_readDigits 33 = .ok (.ifCond .eq 42, 3) := by decide +kernel
theorem dX2_readDigits_36 : decode cX2_readDigits 36 = .ok (.aload_n 0, 1) := by decide +kernel
theorem dX2_readDigits_37 : decode cX2_readDigits 37 = .ok (.aload_n 0, 1) := by decide +kernel
theorem dX2_readDigits_38 : decode cX2_readDigits 38 = .ok (.getfield 30, 3) := by decide +kernel
theorem dX2_readDigits_41 : decode cX2_readDigits 41 = .ok (.bipush 10, 2) := by decide +kernel
theorem dX2_readDigits_43 : decode cX2_readDigits 43 = .ok (.imul, 1) := by decide +kernel
theorem dX2_readDigits_44 : decode cX2_readDigits 44 = .ok (.aload_n 0, 1) := by decide +kernel
theorem dX2_readDigits_45 : decode cX2_readDigits 45 = .ok (.getfield 33, 3) := by decide +kernel
theorem dX2_readDigits_48 : decode cX2_readDigits 48 = .ok (.aload_n 0, 1) := by decide +kernel
theorem dX2_readDigits_49 : decode cX2_readDigits 49 = .ok (.getfield 27, 3) := by decide +kernel
theorem dX2_readDigits_52 : decode cX2_readDigits 52 = .ok (.invokevirtual 47, 3) := by decide +kernel
theorem dX2_readDigits_55 : decode cX2_readDigits 55 = .ok (.iadd, 1) := by decide +kernel
theorem dX2_readDigits_56 : decode cX2_readDigits 56 = .ok (.bipush 48, 2) := by decide +kernel
theorem dX2_readDigits_58 : decode cX2_readDigits 58 = .ok (.isub, 1) := by decide +kernel
theorem dX2_readDigits_59 : decode cX2_readDigits 59 = .ok (.putfield 30, 3) := by decide +kernel
theorem dX2_readDigits_62 : decode cX2_readDigits 62 = .ok (.aload_n 0, 1) := by decide +kernel
theorem dX2_readDigits_63 : decode cX2_readDigits 63 = .ok (.dup, 1) := by decide +kernel
theorem dX2_readDigits_64 : decode cX2_readDigits 64 = .ok (.getfield 27, 3) := by decide +kernel
theorem dX2_readDigits_67 : decode cX2_readDigits 67 = .ok (.iconst 1, 1) := by decide +kernel
theorem dX2_readDigits_68 : decode cX2_readDigits 68 = .ok (.iadd, 1) := by decide +kernel
theorem dX2_readDigits_69 : decode cX2_readDigits 69 = .ok (.putfield 27, 3) := by decide +kernel
theorem dX2_readDigits_72 : decode cX2_readDigits 72 = .ok (.goto (-67), 3) := by decide +kernel
theorem dX2_readDigits_75 : decode cX2_readDigits 75 = .ok (.aload_n 0, 1) := by decide +kernel
theorem dX2_readDigits_76 : decode cX2_readDigits 76 = .ok (.getfield 27, 3) := by decide +kernel
theorem dX2_readDigits_79 : decode cX2_readDigits 79 = .ok (.iload_n 1, 1) := by decide +kernel
theorem dX2_readDigits_80 : decode cX2_readDigits 80 = .ok (.isub, 1) := by decide +kernel
theorem dX2_readDigits_81 : decode cX2_readDigits 81 = .ok (.ireturn, 1) := by decide +kernel
theorem dX2_skipLetters_0 : decode cX2_skipLetters 0 = .ok (.aload_n 0, 1) := by decide +kernel
theorem dX2_skipLetters_1 : decode cX2_skipLetters 1 = .ok (.getfield 27, 3) := by decide +kernel
theorem dX2_skipLetters_4 : decode cX2_skipLetters 4 = .ok (.aload_n 0, 1) := by decide +kernel
theorem dX2_skipLetters_5 : decode cX2_skipLetters 5 = .ok (.getfield 33, 3) := by decide +kernel
theorem dX2_skipLetters_8 : decode cX2_skipLetters 8 = .ok (.invokevirtual 44, 3) := by decide +kernel
theorem dX2_skipLetters_11 : decode cX2_skipLetters 11 = .ok (.if_icmp .ge 33, 3) := by decide +kernel
theorem dX2_skipLetters_14 : decode cX2_skipLetters 14 = .ok (.aload_n 0, 1) := by decide +kernel
theorem dX2_skipLetters_15 : decode cX2_skipLetters 15 = .ok (.getfield 33, 3) := by decide +kernel
theorem dX2_skipLetters_18 : decode cX2_skipLetters 18 = .ok (.aload_n 0, 1) := by decide +kernel
theorem dX2_skipLetters_19 : decode cX2_skipLetters 19 = .ok (.getfield 27, 3) := by decide +kernel
theorem dX2_skipLetters_22 : decode cX2_skipLetters 22 = .ok (.invokevirtual 47, 3) := by decide +kernel
theorem dX2_skipLetters_25 : decode cX2_skipLetters 25 = .ok (.invokestatic 59, 3) := by decide +kernel
theorem dX2_skipLetters_28 : decode cX2_skipLetters 28 = .ok (.ifCond .eq 16, 3) := by decide +kernel
theorem dX2_skipLetters_31 : decode cX2_skipLetters 31 = .ok (.aload_n 0, 1) := by decide +kernel
theorem dX2_skipLetters_32 : decode cX2_skipLetters 32 = .ok (.dup, 1) := by decide +kernel
theorem dX2_skipLetters_33 : decode cX2_skipLetters 33 = .ok (.getfield 27, 3) := by decide +kernel
theorem dX2_skipLetters_36 : decode cX2_skipLetters 36 = .ok (.iconst 1, 1) := by decide +kernel
theorem dX2_skipLetters_37 : decode cX2_skipLetters 37 = .ok (.iadd, 1) := by decide +kernel
theorem dX2_skipLetters_38 : decode cX2_skipLetters 38 = .ok (.putfield 27, 3) := by decide +kernel
theorem dX2_skipLetters_41 : decode cX2_skipLetters 41 = .ok (.goto (-41), 3) := by decide +kernel
theorem dX2_skipLetters_44 : decode cX2_skipLetters 44 = .ok (.return_, 1) := by decide +kernel
theorem dX2_wordSort_0 : decode cX2_wordSort 0 = .ok (.aload_n 0, 1) := by decide +kernel
theorem dX2_wordSort_1 : decode cX2_wordSort 1 = .ok (.getfield 27, 3) := by decide +kernel
theorem dX2_wordSort_4 : decode cX2_wordSort 4 = .ok (.aload_n 0, 1) := by decide +kernel
theorem dX2_wordSort_5 : decode cX2_wordSort 5 = .ok (.getfield 23, 3) := by decide +kernel
theorem dX2_wordSort_8 : decode cX2_wordSort 8 = .ok (.isub, 1) := by decide +kernel
theorem dX2_wordSort_9 : decode cX2_wordSort 9 = .ok (.bipush 8, 2) := by decide +kernel
theorem dX2_wordSort_11 : decode cX2_wordSort 11 = .ok (.if_icmp .le 8, 3) := by decide +kernel
theorem dX2_wordSort_14 : decode cX2_wordSort 14 = .ok (.bipush 16, 2) := by decide +kernel
theorem dX2_wordSort_16 : decode cX2_wordSort 16 = .ok (.goto 153, 3) := by decide +kernel
theorem dX2_wordSort_19 : decode cX2_wordSort 19 = .ok (.aload_n 0, 1) := by decide +kernel
theorem dX2_wordSort_20 : decode cX2_wordSort 20 = .ok (.ldc 79, 2) := by decide +kernel
theorem dX2_wordSort_22 : decode cX2_wordSort 22 = .ok (.invokevirtual 81, 3) := by decide +kernel
theorem dX2_wordSort_25 : decode cX2_wordSort 25 = .ok (.ifCond .eq 7, 3) := by decide +kernel
theorem dX2_wordSort_28 : decode cX2_wordSort 28 = .ok (.iconst 0, 1) := by decide +kernel
theorem dX2_wordSort_29 : decode cX2_wordSort 29 = .ok (.goto 140, 3) := by decide +kernel
theorem dX2_wordSort_32 : decode cX2_wordSort 32 = .ok (.aload_n 0, 1) := by decide +kernel
theorem dX2_wordSort_33 : decode cX2_wordSort 33 = .ok (.ldc 85, 2) := by decide +kernel
theorem dX2_wordSort_35 : decode cX2_wordSort 35 = .ok (.invokevirtual 81, 3) := by decide +kernel
theorem dX2_wordSort_38 : decode cX2_wordSort 38 = .ok (.ifCond .eq 7, 3) := by decide +kernel
theorem dX2_wordSort_41 : decode cX2_wordSort 41 = .ok (.iconst 1, 1) := by decide +kernel
theorem dX2_wordSort_42 : decode cX2_wordSort 42 = .ok (.goto 127, 3) := by decide +kernel
theorem dX2_wordSort_45 : decode cX2_wordSort 45 = .ok (.aload_n 0, 1) := by decide +kernel
theorem dX2_wordSort_46 : decode cX2_wordSort 46 = .ok (.ldc 87, 2) := by decide +kernel
theorem dX2_wordSort_48 : decode cX2_wordSort 48 = .ok (.invokevirtual 81, 3) := by decide +kernel
theorem dX2_wordSort_51 : decode cX2_wordSort 51 = .ok (.ifCond .eq 7, 3) := by decide +kernel
theorem dX2_wordSort_54 : decode cX2_wordSort 54 = .ok (.iconst 2, 1) := by decide +kernel
theorem dX2_wordSort_55 : decode cX2_wordSort 55 = .ok (.goto 114, 3) := by decide +kernel
theorem dX2_wordSort_58 : decode cX2_wordSort 58 = .ok (.aload_n 0, 1) := by decide +kernel
theorem dX2_wordSort_59 : decode cX2_wordSort 59 = .ok (.ldc 89, 2) := by decide +kernel
theorem dX2_wordSort_61 : decode cX2_wordSort 61 = .ok (.invokevirtual 81, 3) := by decide +kernel
theorem dX2_wordSort_64 : decode cX2_wordSort 64 = .ok (.ifCond .eq 7, 3) := by decide +kernel
theorem dX2_wordSort_67 : decode cX2_wordSort 67 = .ok (.iconst 3, 1) := by decide +kernel
theorem dX2_wordSort_68 : decode cX2_wordSort 68 = .ok (.goto 101, 3) := by decide +kernel
theorem dX2_wordSort_71 : decode cX2_wordSort 71 = .ok (.aload_n 0, 1) := by decide +kernel
theorem dX2_wordSort_72 : decode cX2_wordSort 72 = .ok (.ldc 91, 2) := by decide +kernel
theorem dX2_wordSort_74 : decode cX2_wordSort 74 = .ok (.invokevirtual 81, 3) := by decide +kernel
theorem dX2_wordSort_77 : decode cX2_wordSort 77 = .ok (.ifCond .eq 7, 3) := by decide +kernel
theorem dX2_wordSort_80 : decode cX2_wordSort 80 = .ok (.iconst 4, 1) := by decide +kernel
theorem dX2_wordSort_81 : decode cX2_wordSort 81 = .ok (.goto 88, 3) := by decide +kernel
theorem dX2_wordSort_84 : decode cX2_wordSort 84 = .ok (.aload_n 0, 1) := by decide +kernel
theorem dX2_wordSort_85 : decode cX2_wordSort 85 = .ok (.ldc 93, 2) := by decide +kernel
theorem dX2_wordSort_87 : decode cX2_wordSort 87 = .ok (.invokevirtual 81, 3) := by decide +kernel
theorem dX2_wordSort_90 : decode cX2_wordSort 90 = .ok (.ifCond .eq 7, 3) := by decide +kernel
theorem dX2_wordSort_93 : decode cX2_wordSort 93 = .ok (.iconst 5, 1) := by decide +kernel
theorem dX2_wordSort_94 : decode cX2_wordSort 94 = .ok (.goto 75, 3) := by decide +kernel
theorem dX2_wordSort_97 : decode cX2_wordSort 97 = .ok (.aload_n 0, 1) := by decide +kernel
theorem dX2_wordSort_98 : decode cX2_wordSort 98 = .ok (.ldc 95, 2) := by decide +kernel
theorem dX2_wordSort_100 : decode cX2_wordSort 100 = .ok (.invokevirtual 81, 3) := by decide +kernel
theorem dX2_wordSort_103 : decode cX2_wordSort 103 = .ok (.ifCond .eq 8, 3) := by decide +kernel
theorem dX2_wordSort_106 : decode cX2_wordSort 106 = .ok (.bipush 6, 2) := by decide +kernel
theorem dX2_wordSort_108 : decode cX2_wordSort 108 = .ok (.goto 61, 3) := by decide +kernel
theorem dX2_wordSort_111 : decode cX2_wordSort 111 = .ok (.aload_n 0, 1) := by decide +kernel
theorem dX2_wordSort_112 : decode cX2_wordSort 112 = .ok (.ldc 97, 2) := by decide +kernel
theorem dX2_wordSort_114 : decode cX2_wordSort 114 = .ok (.invokevirtual 81, 3) := by decide +kernel
theorem dX2_wordSort_117 : decode cX2_wordSort 117 = .ok (.ifCond .eq 8, 3) := by decide +kernel
theorem dX2_wordSort_120 : decode cX2_wordSort 120 = .ok (.bipush 7, 2) := by decide +kernel
theorem dX2_wordSort_122 : decode cX2_wordSort 122 = .ok (.goto 47, 3) := by decide +kernel
theorem dX2_wordSort_125 : decode cX2_wordSort 125 = .ok (.aload_n 0, 1) := by decide +kernel
theorem dX2_wordSort_126 : decode cX2_wordSort 126 = .ok (.ldc 99, 2) := by decide +kernel
theorem dX2_wordSort_128 : decode cX2_wordSort 128 = .ok (.invokevirtual 81, 3) := by decide +kernel
theorem dX2_wordSort_131 : decode cX2_wordSort 131 = .ok (.ifCond .eq 8, 3) := by decide +kernel
theorem dX2_wordSort_134 : decode cX2_wordSort 134 = .ok (.bipush 8, 2) := by decide +kernel
theorem dX2_wordSort_136 : decode cX2_wordSort 136 = .ok (.goto 33, 3) := by decide +kernel
theorem dX2_wordSort_139 : decode cX2_wordSort 139 = .ok (.aload_n 0, 1) := by decide +kernel
theorem dX2_wordSort_140 : decode cX2_wordSort 140 = .ok (.ldc 101, 2) := by decide +kernel
theorem dX2_wordSort_142 : decode cX2_wordSort 142 = .ok (.invokevirtual 81, 3) := by decide +kernel
theorem dX2_wordSort_145 : decode cX2_wordSort 145 = .ok (.ifCond .eq 8, 3) := by decide +kernel
theorem dX2_wordSort_148 : decode cX2_wordSort 148 = .ok (.bipush 9, 2) := by decide +kernel
theorem dX2_wordSort_150 : decode cX2_wordSort 150 = .ok (.goto 19, 3) := by decide +kernel
theorem dX2_wordSort_153 : decode cX2_wordSort 153 = .ok (.aload_n 0, 1) := by decide +kernel
theorem dX2_wordSort_154 : decode cX2_wordSort 154 = .ok (.ldc 103, 2) := by decide +kernel
theorem dX2_wordSort_156 : decode cX2_wordSort 156 = .ok (.invokevirtual 81, 3) := by decide +kernel
theorem dX2_wordSort_159 : decode cX2_wordSort 159 = .ok (.ifCond .eq 8, 3) := by decide +kernel
theorem dX2_wordSort_162 : decode cX2_wordSort 162 = .ok (.bipush 10, 2) := by decide +kernel
theorem dX2_wordSort_164 : decode cX2_wordSort 164 = .ok (.goto 5, 3) := by decide +kernel
theorem dX2_wordSort_167 : decode cX2_wordSort 167 = .ok (.bipush 11, 2) := by decide +kernel
theorem dX2_wordSort_169 : decode cX2_wordSort 169 = .ok (.ireturn, 1) := by decide +kernel
theorem dX2_isWord_0 : decode cX2_isWord 0 = .ok (.aload_n 0, 1) := by decide +kernel
theorem dX2_isWord_1 : decode cX2_isWord 1 = .ok (.getfield 27, 3) := by decide +kernel
theorem dX2_isWord_4 : decode cX2_isWord 4 = .ok (.aload_n 0, 1) := by decide +kernel
theorem dX2_isWord_5 : decode cX2_isWord 5 = .ok (.getfield 23, 3) := by decide +kernel
theorem dX2_isWord_8 : decode cX2_isWord 8 = .ok (.isub, 1) := by decide +kernel
theorem dX2_isWord_9 : decode cX2_isWord 9 = .ok (.aload_n 1, 1) := by decide +kernel
theorem dX2_isWord_10 : decode cX2_isWord 10 = .ok (.invokevirtual 105, 3) := by decide +kernel
theorem dX2_isWord_13 : decode cX2_isWord 13 = .ok (.if_icmp .eq 5, 3) := by decide +kernel
theorem dX2_isWord_16 : decode cX2_isWord 16 = .ok (.iconst 0, 1) := by decide +kernel
theorem dX2_isWord_17 : decode cX2_isWord 17 = .ok (.ireturn, 1) := by decide +kernel
theorem dX2_isWord_18 : decode cX2_isWord 18 = .ok (.iconst 0, 1) := by decide +kernel
theorem dX2_isWord_19 : decode cX2_isWord 19 = .ok (.istore_n 2, 1) := by decide +kernel
theorem dX2_isWord_20 : decode cX2_isWord 20 = .ok (.iload_n 2, 1) := by decide +kernel
theorem dX2_isWord_21 : decode cX2_isWord 21 = .ok (.aload_n 1, 1) := by decide +kernel
theorem dX2_isWord_22 : decode cX2_isWord 22 = .ok (.invokevirtual 105, 3) := by decide +kernel
theorem dX2_isWord_25 : decode cX2_isWord 25 = .ok (.if_icmp .ge 32, 3) := by decide +kernel
theorem dX2_isWord_28 : decode cX2_isWord 28 = .ok (.aload_n 0, 1) := by decide +kernel
theorem dX2_isWord_29 : decode cX2_isWord 29 = .ok (.getfield 33, 3) := by decide +kernel
theorem dX2_isWord_32 : decode cX2_isWord 32 = .ok (.aload_n 0, 1) := by decide +kernel
theorem dX2_isWord_33 : decode cX2_isWord 33 = .ok (.getfield 23, 3) := by decide +kernel
theorem dX2_isWord_36 : decode cX2_isWord 36 = .ok (.iload_n 2, 1) := by decide +kernel
theorem dX2_isWord_37 : decode cX2_isWord 37 = .ok (.iadd, 1) := by decide +kernel
theorem dX2_isWord_38 : decode cX2_isWord 38 = .ok (.invokevirtual 47, 3) := by decide +kernel
theorem dX2_isWord_41 : decode cX2_isWord 41 = .ok (.aload_n 1, 1) := by decide +kernel
theorem dX2_isWord_42 : decode cX2_isWord 42 = .ok (.iload_n 2, 1) := by decide +kernel
theorem dX2_isWord_43 : decode cX2_isWord 43 = .ok (.invokevirtual 108, 3) := by decide +kernel
theorem dX2_isWord_46 : decode cX2_isWord 46 = .ok (.if_icmp .eq 5, 3) := by decide +kernel
theorem dX2_isWord_49 : decode cX2_isWord 49 = .ok (.iconst 0, 1) := by decide +kernel
theorem dX2_isWord_50 : decode cX2_isWord 50 = .ok (.ireturn, 1) := by decide +kernel
theorem dX2_isWord_51 : decode cX2_isWord 51 = .ok (.iinc 2 1, 3) := by decide +kernel
theorem dX2_isWord_54 : decode cX2_isWord 54 = .ok (.goto (-34), 3) := by decide +kernel
theorem dX2_isWord_57 : decode cX2_isWord 57 = .ok (.iconst 1, 1) := by decide +kernel
theorem dX2_isWord_58 : decode cX2_isWord 58 = .ok (.ireturn, 1) := by decide +kernel
theorem dX2_isBlank_0 : decode cX2_isBlank 0 = .ok (.iload_n 0, 1) := by decide +kernel
theorem dX2_isBlank_1 : decode cX2_isBlank 1 = .ok (.bipush 32, 2) := by decide +kernel
theorem dX2_isBlank_3 : decode cX2_isBlank 3 = .ok (.if_icmp .eq 9, 3) := by decide +kernel
theorem dX2_isBlank_6 : decode cX2_isBlank 6 = .ok (.iload_n 0, 1) := by decide +kernel
theorem dX2_isBlank_7 : decode cX2_isBlank 7 = .ok (.bipush 10, 2) := by decide +kernel
theorem dX2_isBlank_9 : decode cX2_isBlank 9 = .ok (.if_icmp .ne 7, 3) := by decide +kernel
theorem dX2_isBlank_12 : decode cX2_isBlank 12 = .ok (.iconst 1, 1) := by decide +kernel
theorem dX2_isBlank_13 : decode cX2_isBlank 13 = .ok (.goto 4, 3) := by decide +kernel
theorem dX2_isBlank_16 : decode cX2_isBlank 16 = .ok (.iconst 0, 1) := by decide +kernel
theorem dX2_isBlank_17 : decode cX2_isBlank 17 = .ok (.ireturn, 1) := by decide +kernel
theorem dX2_isLetter_0 : decode cX2_isLetter 0 = .ok (.iload_n 0, 1) := by decide +kernel
theorem dX2_isLetter_1 : decode cX2_isLetter 1 = .ok (.bipush 97, 2) := by decide +kernel
theorem dX2_isLetter_3 : decode cX2_isLetter 3 = .ok (.if_icmp .lt 13, 3) := by decide +kernel
theorem dX2_isLetter_6 : decode cX2_isLetter 6 = .ok (.iload_n 0, 1) := by decide +kernel
theorem dX2_isLetter_7 : decode cX2_isLetter 7 = .ok (.bipush 122, 2) := by decide +kernel
theorem dX2_isLetter_9 : decode cX2_isLetter 9 = .ok (.if_icmp .gt 7, 3) := by decide +kernel
theorem dX2_isLetter_12 : decode cX2_isLetter 12 = .ok (.iconst 1, 1) := by decide +kernel
theorem dX2_isLetter_13 : decode cX2_isLetter 13 = .ok (.goto 4, 3) := by decide +kernel
theorem dX2_isLetter_16 : decode cX2_isLetter 16 = .ok (.iconst 0, 1) := by decide +kernel
theorem dX2_isLetter_17 : decode cX2_isLetter 17 = .ok (.ireturn, 1) := by decide +kernel
theorem dX2_isDigit_0 : decode cX2_isDigit 0 = .ok (.iload_n 0, 1) := by decide +kernel
theorem dX2_isDigit_1 : decode cX2_isDigit 1 = .ok (.bipush 48, 2) := by decide +kernel
theorem dX2_isDigit_3 : decode cX2_isDigit 3 = .ok (.if_icmp .lt 13, 3) := by decide +kernel
theorem dX2_isDigit_6 : decode cX2_isDigit 6 = .ok (.iload_n 0, 1) := by decide +kernel
theorem dX2_isDigit_7 : decode cX2_isDigit 7 = .ok (.bipush 57, 2) := by decide +kernel
theorem dX2_isDigit_9 : decode cX2_isDigit 9 = .ok (.if_icmp .gt 7, 3) := by decide +kernel
theorem dX2_isDigit_12 : decode cX2_isDigit 12 = .ok (.iconst 1, 1) := by decide +kernel
theorem dX2_isDigit_13 : decode cX2_isDigit 13 = .ok (.goto 4, 3) := by decide +kernel
theorem dX2_isDigit_16 : decode cX2_isDigit 16 = .ok (.iconst 0, 1) := by decide +kernel
theorem dX2_isDigit_17 : decode cX2_isDigit 17 = .ok (.ireturn, 1) := by decide +kernel
theorem dX3_init_0 : decode cX3_init 0 = .ok (.aload_n 0, 1) := by decide +kernel
theorem dX3_init_1 : decode cX3_init 1 = .ok (.invokespecial 3, 3) := by decide +kernel
theorem dX3_init_4 : decode cX3_init 4 = .ok (.aload_n 0, 1) := by decide +kernel
theorem dX3_init_5 : decode cX3_init 5 = .ok (.new 9, 3) := by decide +kernel
theorem dX3_init_8 : decode cX3_init 8 = .ok (.dup, 1) := by decide +kernel
theorem dX3_init_9 : decode cX3_init 9 = .ok (.invokespecial 11, 3) := by decide +kernel
theorem dX3_init_12 : decode cX3_init 12 = .ok (.putfield 12, 3) := by decide +kernel
theorem dX3_init_15 : decode cX3_init 15 = .ok (.aload_n 0, 1) := by decide +kernel
theorem dX3_init_16 : decode cX3_init 16 = .ok (.iconst 0, 1) := by decide +kernel
theorem dX3_init_17 : decode cX3_init 17 = .ok (.putfield 18, 3) := by decide +kernel
theorem dX3_init_20 : decode cX3_init 20 = .ok (.aload_n 0, 1) := by decide +kernel
theorem dX3_init_21 : decode cX3_init 21 = .ok (.iconst (-1), 1) := by decide +kernel
theorem dX3_init_22 : decode cX3_init 22 = .ok (.putfield 22, 3) := by decide +kernel
theorem dX3_init_25 : decode cX3_init 25 = .ok (.aload_n 0, 1) := by decide +kernel
theorem dX3_init_26 : decode cX3_init 26 = .ok (.iconst 0, 1) := by decide +kernel
theorem dX3_init_27 : decode cX3_init 27 = .ok (.putfield 25, 3) := by decide +kernel
theorem dX3_init_30 : decode cX3_init 30 = .ok (.aload_n 0, 1) := by decide +kernel
theorem dX3_init_31 : decode cX3_init 31 = .ok (.iconst 0, 1) := by decide +kernel
theorem dX3_init_32 : decode cX3_init 32 = .ok (.putfield 28, 3) := by decide +kernel
theorem dX3_init_35 : decode cX3_init 35 = .ok (.aload_n 0, 1) := by decide +kernel
theorem dX3_init_36 : decode cX3_init 36 = .ok (.iconst 1, 1) := by decide +kernel
theorem dX3_init_37 : decode cX3_init 37 = .ok (.putfield 31, 3) := by decide +kernel
theorem dX3_init_40 : decode cX3_init 40 = .ok (.aload_n 0, 1) := by decide +kernel
theorem dX3_init_41 : decode cX3_init 41 = .ok (.iconst 4, 1) := by decide +kernel
theorem dX3_init_42 : decode cX3_init 42 = .ok (.putfield 37, 3) := by decide +kernel
theorem dX3_init_45 : decode cX3_init 45 = .ok (.aload_n 0, 1) := by decide +kernel
theorem dX3_init_46 : decode cX3_init 46 = .ok (.iconst (-1), 1) := by decide +kernel
theorem dX3_init_47 : decode cX3_init 47 = .ok (.putfield 40, 3) := by decide +kernel
theorem dX3_init_50 : decode cX3_init 50 = .ok (.aload_n 0, 1) := by decide +kernel
theorem dX3_init_51 : decode cX3_init 51 = .ok (.iconst 0, 1) := by decide +kernel
theorem dX3_init_52 : decode cX3_init 52 = .ok (.putfield 43, 3) := by decide +kernel
theorem dX3_init_55 : decode cX3_init 55 = .ok (.aload_n 0, 1) := by decide +kernel
theorem dX3_init_56 : decode cX3_init 56 = .ok (.sipush 1440, 3) := by decide +kernel
theorem dX3_init_59 : decode cX3_init 59 = .ok (.putfield 46, 3) := by decide +kernel
theorem dX3_init_62 : decode cX3_init 62 = .ok (.aload_n 0, 1) := by decide +kernel
theorem dX3_init_63 : decode cX3_init 63 = .ok (.iconst 0, 1) := by decide +kernel
theorem dX3_init_64 : decode cX3_init 64 = .ok (.putfield 49, 3) := by decide +kernel
theorem dX3_init_67 : decode cX3_init 67 = .ok (.aload_n 0, 1) := by decide +kernel
theorem dX3_init_68 : decode cX3_init 68 = .ok (.new 35, 3) := by decide +kernel
theorem dX3_init_71 : decode cX3_init 71 = .ok (.dup, 1) := by decide +kernel
theorem dX3_init_72 : decode cX3_init 72 = .ok (.aload_n 1, 1) := by decide +kernel
theorem dX3_init_73 : decode cX3_init 73 = .ok (.invokespecial 52, 3) := by decide +kernel
theorem dX3_init_76 : decode cX3_init 76 = .ok (.putfield 55, 3) := by decide +kernel
theorem dX3_init_79 : decode cX3_init 79 = .ok (.return_, 1) := by decide +kernel
theorem dX3_draft_0 : decode cX3_draft 0 = .ok (.aload_n 0, 1) := by decide +kernel
theorem dX3_draft_1 : decode cX3_draft 1 = .ok (.getfield 12, 3) := by decide +kernel
theorem dX3_draft_4 : decode cX3_draft 4 = .ok (.areturn, 1) := by decide +kernel
theorem dX3_faultKind_0 : decode cX3_faultKind 0 = .ok (.aload_n 0, 1) := by decide +kernel
theorem dX3_faultKind_1 : decode cX3_faultKind 1 = .ok (.getfield 18, 3) := by decide +kernel
theorem dX3_faultKind_4 : decode cX3_faultKind 4 = .ok (.ireturn, 1) := by decide +kernel
theorem dX3_faultPlace_0 : decode cX3_faultPlace 0 = .ok (.aload_n 0, 1) := by decide +kernel
theorem dX3_faultPlace_1 : decode cX3_faultPlace 1 = .ok (.getfield 22, 3) := by decide +kernel
theorem dX3_faultPlace_4 : decode cX3_faultPlace 4 = .ok (.ireturn, 1) := by decide +kernel
theorem dX3_parse_0 : decode cX3_parse 0 = .ok (.aload_n 0, 1) := by decide +kernel
theorem dX3_parse_1 : decode cX3_parse 1 = .ok (.getfield 55, 3) := by decide +kernel
theorem dX3_parse_4 : decode cX3_parse 4 = .ok (.invokevirtual 59, 3) := by decide +kernel
theorem dX3_parse_7 : decode cX3_parse 7 = .ok (.aload_n 0, 1) := by decide +kernel
theorem dX3_parse_8 : decode cX3_parse 8 = .ok (.getfield 12, 3) := by decide +kernel
theorem dX3_parse_11 : decode cX3_parse 11 = .ok (.invokevirtual 62, 3) := by decide +kernel
theorem dX3_parse_14 : decode cX3_parse 14 = .ok (.aload_n 0, 1) := by decide +kernel
theorem dX3_parse_15 : decode cX3_parse 15 = .ok (.iconst 0, 1) := by decide +kernel
theorem dX3_parse_16 : decode cX3_parse 16 = .ok (.putfield 25, 3) := by decide +kernel
theorem dX3_parse_19 : decode cX3_parse 19 = .ok (.aload_n 0, 1) := by decide +kernel
theorem dX3_parse_20 : decode cX3_parse 20 = .ok (.iconst 1, 1) := by decide +kernel
theorem dX3_parse_21 : decode cX3_parse 21 = .ok (.putfield 31, 3) := by decide +kernel
theorem dX3_parse_24 : decode cX3_parse 24 = .ok (.iconst 1, 1) := by decide +kernel
theorem dX3_parse_25 : decode cX3_parse 25 = .ok (.istore_n 1, 1) := by decide +kernel
theorem dX3_parse_26 : decode cX3_parse 26 = .ok (.iconst 0, 1) := by decide +kernel
theorem dX3_parse_27 : decode cX3_parse 27 = .ok (.istore_n 2, 1) := by decide +kernel
theorem dX3_parse_28 : decode cX3_parse 28 = .ok (.iload_n 2, 1) := by decide +kernel
theorem dX3_parse_29 : decode cX3_parse 29 = .ok (.bipush 20, 2) := by decide +kernel
theorem dX3_parse_31 : decode cX3_parse 31 = .ok (.if_icmp .gt 27, 3) := by decide +kernel
theorem dX3_parse_34 : decode cX3_parse 34 = .ok (.iload_n 1, 1) := by decide +kernel
theorem dX3_parse_35 : decode cX3_parse 35 = .ok (.ifCond .eq 23, 3) := by decide +kernel
theorem dX3_parse_38 : decode cX3_parse 38 = .ok (.aload_n 0, 1) := by decide +kernel
theorem dX3_parse_39 : decode cX3_parse 39 = .ok (.invokevirtual 65, 3) := by decide +kernel
theorem dX3_parse_42 : decode cX3_parse 42 = .ok (.bipush 15, 2) := by decide +kernel
theorem dX3_parse_44 : decode cX3_parse 44 = .ok (.if_icmp .eq 14, 3) := by decide +kernel
theorem dX3_parse_47 : decode cX3_parse 47 = .ok (.aload_n 0, 1) := by decide +kernel
theorem dX3_parse_48 : decode cX3_parse 48 = .ok (.invokevirtual 69, 3) := by decide +kernel
theorem dX3_parse_51 : decode cX3_parse 51 = .ok (.istore_n 1, 1) := by decide +kernel
theorem dX3_parse_52 : decode cX3_parse 52 = .ok (.iinc 2 1, 3) := by decide +kernel
theorem dX3_parse_55 : decode cX3_parse 55 = .ok (.goto (-27), 3) := by decide +kernel
theorem dX3_parse_58 : decode cX3_parse 58 = .ok (.aload_n 0, 1) := by decide +kernel
theorem dX3_parse_59 : decode cX3_parse 59 = .ok (.iload_n 1, 1) := by decide +kernel
theorem dX3_parse_60 : decode cX3_parse 60 = .ok (.ifCond .eq 7, 3) := by decide +kernel
theorem dX3_parse_63 : decode cX3_parse 63 = .ok (.iconst 0, 1) := by decide +kernel
theorem dX3_parse_64 : decode cX3_parse 64 = .ok (.goto 7, 3) := by decide +kernel
theorem dX3_parse_67 : decode cX3_parse 67 = .ok (.aload_n 0, 1) := by decide +kernel
theorem dX3_parse_68 : decode cX3_parse 68 = .ok (.invokevirtual 73, 3) := by decide +kernel
theorem dX3_parse_71 : decode cX3_parse 71 = .ok (.putfield 18, 3) := by decide +kernel
theorem dX3_parse_74 : decode cX3_parse 74 = .ok (.aload_n 0, 1) := by decide +kernel
theorem dX3_parse_75 : decode cX3_parse 75 = .ok (.iload_n 1, 1) := by decide +kernel
theorem dX3_parse_76 : decode cX3_parse 76 = .ok (.ifCond .eq 7, 3) := by decide +kernel
theorem dX3_parse_79 : decode cX3_parse 79 = .ok (.iconst (-1), 1) := by decide +kernel
theorem dX3_parse_80 : decode cX3_parse 80 = .ok (.goto 14, 3) := by decide +kernel
theorem dX3_parse_83 : decode cX3_parse 83 = .ok (.aload_n 0, 1) := by decide +kernel
theorem dX3_parse_84 : decode cX3_parse 84 = .ok (.getfield 55, 3) := by decide +kernel
theorem dX3_parse_87 : decode cX3_parse 87 = .ok (.aload_n 0, 1) := by decide +kernel
theorem dX3_parse_88 : decode cX3_parse 88 = .ok (.getfield 25, 3) := by decide +kernel
theorem dX3_parse_91 : decode cX3_parse 91 = .ok (.invokevirtual 76, 3) := by decide +kernel
theorem dX3_parse_94 : decode cX3_parse 94 = .ok (.putfield 22, 3) := by decide +kernel
theorem dX3_parse_97 : decode cX3_parse 97 = .ok (.iload_n 1, 1) := by decide +kernel
theorem dX3_parse_98 : decode cX3_parse 98 = .ok (.ireturn, 1) := by decide +kernel
theorem dX3_faultHere_0 : decode cX3_faultHere 0 = .ok (.aload_n 0, 1) := by decide +kernel
theorem dX3_faultHere_1 : decode cX3_faultHere 1 = .ok (.getfield 31, 3) := by decide +kernel
theorem dX3_faultHere_4 : decode cX3_faultHere 4 = .ok (.ifCond .ne 5, 3) := by decide +kernel
theorem dX3_faultHere_7 : decode cX3_faultHere 7 = .ok (.iconst 3, 1) := by decide +kernel
theorem dX3_faultHere_8 : decode cX3_faultHere 8 = .ok (.ireturn, 1) := by decide +kernel
theorem dX3_faultHere_9 : decode cX3_faultHere 9 = .ok (.aload_n 0, 1) := by decide +kernel
theorem dX3_faultHere_10 : decode cX3_faultHere 10 = .ok (.invokevirtual 65, 3) := by decide +kernel
theorem dX3_faultHere_13 : decode cX3_faultHere 13 = .ok (.bipush 16, 2) := by decide +kernel
theorem dX3_faultHere_15 : decode cX3_faultHere 15 = .ok (.if_icmp .ne 7, 3) := by decide +kernel
theorem dX3_faultHere_18 : decode cX3_faultHere 18 = .ok (.iconst 1, 1) := by decide +kernel
theorem dX3_faultHere_19 : decode cX3_faultHere 19 = .ok (.goto 4, 3) := by decide +kernel
theorem dX3_faultHere_22 : decode cX3_faultHere 22 = .ok (.iconst 2, 1) := by decide +kernel
theorem dX3_faultHere_23 : decode cX3_faultHere 23 = .ok (.ireturn, 1) := by decide +kernel
theorem dX3_sortHere_0 : decode cX3_sortHere 0 = .ok (.aload_n 0, 1) := by decide +kernel
theorem dX3_sortHere_1 : decode cX3_sortHere 1 = .ok (.getfield 55, 3) := by decide +kernel
theorem dX3_sortHere_4 : decode cX3_sortHere 4 = .ok (.aload_n 0, 1) := by decide +kernel
theorem dX3_sortHere_5 : decode cX3_sortHere 5 = .ok (.getfield 25, 3) := by decide +kernel
theorem dX3_sortHere_8 : decode cX3_sortHere 8 = .ok (.invokevirtual 80, 3) := by decide +kernel
theorem dX3_sortHere_11 : decode cX3_sortHere 11 = .ok (.ireturn, 1) := by decide +kernel
theorem dX3_readAct_0 : decode cX3_readAct 0 = .ok (.aload_n 0, 1) := by decide +kernel
theorem dX3_readAct_1 : decode cX3_readAct 1 = .ok (.invokevirtual 65, 3) := by decide +kernel
theorem dX3_readAct_4 : decode cX3_readAct 4 = .ok (.istore_n 1, 1) := by decide +kernel
theorem dX3_readAct_5 : decode cX3_readAct 5 = .ok (.iload_n 1, 1) := by decide +kernel
theorem dX3_readAct_6 : decode cX3_readAct 6 = .ok (.bipush 8, 2) := by decide +kernel
theorem dX3_readAct_8 : decode cX3_readAct 8 = .ok (.if_icmp .eq 15, 3) := by decide +kernel
theorem dX3_readAct_11 : decode cX3_readAct 11 = .ok (.iload_n 1, 1) := by decide +kernel
theorem dX3_readAct_12 : decode cX3_readAct 12 = .ok (.bipush 9, 2) := by decide +kernel
theorem dX3_readAct_14 : decode cX3_readAct 14 = .ok (.if_icmp .eq 9, 3) := by decide +kernel
theorem dX3_readAct_17 : decode cX3_readAct 17 = .ok (.iload_n 1, 1) := by decide +kernel
theorem dX3_readAct_18 : decode cX3_readAct 18 = .ok (.bipush 10, 2) := by decide +kernel
theorem dX3_readAct_20 : decode cX3_readAct 20 = .ok (.if_icmp .ne 7, 3) := by decide +kernel
theorem dX3_readAct_23 : decode cX3_readAct 23 = .ok (.iconst 1, 1) := by decide +kernel
theorem dX3_readAct_24 : decode cX3_readAct 24 = .ok (.goto 4, 3) := by decide +kernel
theorem dX3_readAct_27 : decode cX3_readAct 27 = .ok (.iconst 0, 1) := by decide +kernel
theorem dX3_readAct_28 : decode cX3_readAct 28 = .ok (.istore_n 2, 1) := by decide +kernel
theorem dX3_readAct_29 : decode cX3_readAct 29 = .ok (.iload_n 2, 1) := by decide +kernel
theorem dX3_readAct_30 : decode cX3_readAct 30 = .ok (.ifCond .eq 13, 3) := by decide +kernel
theorem dX3_readAct_33 : decode cX3_readAct 33 = .ok (.aload_n 0, 1) := by decide +kernel
theorem dX3_readAct_34 : decode cX3_readAct 34 = .ok (.getfield 12, 3) := by decide +kernel
theorem dX3_readAct_37 : decode cX3_readAct 37 = .ok (.invokevirtual 83, 3) := by decide +kernel
theorem dX3_readAct_40 : decode cX3_readAct 40 = .ok (.ifCond .eq 5, 3) := by decide +kernel
theorem dX3_readAct_43 : decode cX3_readAct 43 = .ok (.iconst 0, 1) := by decide +kernel
theorem dX3_readAct_44 : decode cX3_readAct 44 = .ok (.ireturn, 1) := by decide +kernel
theorem dX3_readAct_45 : decode cX3_readAct 45 = .ok (.aload_n 0, 1) := by decide +kernel
theorem dX3_readAct_46 : decode cX3_readAct 46 = .ok (.dup, 1) := by decide +kernel
theorem dX3_readAct_47 : decode cX3_readAct 47 = .ok (.getfield 25, 3) := by decide +kernel
theorem dX3_readAct_50 : decode cX3_readAct 50 = .ok (.iconst 1, 1) := by decide +kernel
theorem dX3_readAct_51 : decode cX3_readAct 51 = .ok (.iadd, 1) := by decide +kernel
theorem dX3_readAct_52 : decode cX3_readAct 52 = .ok (.putfield 25, 3) := by decide +kernel
theorem dX3_readAct_55 : decode cX3_readAct 55 = .ok (.aload_n 0, 1) := by decide +kernel
theorem dX3_readAct_56 : decode cX3_readAct 56 = .ok (.iconst 4, 1) := by decide +kernel
theorem dX3_readAct_57 : decode cX3_readAct 57 = .ok (.putfield 37, 3) := by decide +kernel
theorem dX3_readAct_60 : decode cX3_readAct 60 = .ok (.aload_n 0, 1) := by decide +kernel
theorem dX3_readAct_61 : decode cX3_readAct 61 = .ok (.iconst (-1), 1) := by decide +kernel
theorem dX3_readAct_62 : decode cX3_readAct 62 = .ok (.putfield 40, 3) := by decide +kernel
theorem dX3_readAct_65 : decode cX3_readAct 65 = .ok (.aload_n 0, 1) := by decide +kernel
theorem dX3_readAct_66 : decode cX3_readAct 66 = .ok (.iconst 0, 1) := by decide +kernel
theorem dX3_readAct_67 : decode cX3_readAct 67 = .ok (.putfield 43, 3) := by decide +kernel
theorem dX3_readAct_70 : decode cX3_readAct 70 = .ok (.aload_n 0, 1) := by decide +kernel
theorem dX3_readAct_71 : decode cX3_readAct 71 = .ok (.sipush 1440, 3) := by decide +kernel
theorem dX3_readAct_74 : decode cX3_readAct 74 = .ok (.putfield 46, 3) := by decide +kernel
theorem dX3_readAct_77 : decode cX3_readAct 77 = .ok (.aload_n 0, 1) := by decide +kernel
theorem dX3_readAct_78 : decode cX3_readAct 78 = .ok (.iconst 0, 1) := by decide +kernel
theorem dX3_readAct_79 : decode cX3_readAct 79 = .ok (.putfield 49, 3) := by decide +kernel
theorem dX3_readAct_82 : decode cX3_readAct 82 = .ok (.iload_n 1, 1) := by decide +kernel
theorem dX3_readAct_83 : decode cX3_readAct 83 = .ok (.bipush 10, 2) := by decide +kernel
theorem dX3_readAct_85 : decode cX3_readAct 85 = .ok (.if_icmp .ne 10, 3) := by decide +kernel
theorem dX3_readAct_88 : decode cX3_readAct 88 = .ok (.aload_n 0, 1) := by decide +kernel
theorem dX3_readAct_89 : decode cX3_readAct 89 = .ok (.invokevirtual 86, 3) := by decide +kernel
theorem dX3_readAct_92 : decode cX3_readAct 92 = .ok (.goto 7, 3) := by decide +kernel
theorem dX3_readAct_95 : decode cX3_readAct 95 = .ok (.aload_n 0, 1) := by decide +kernel
theorem dX3_readAct_96 : decode cX3_readAct 96 = .ok (.invokevirtual 89, 3) := by decide +kernel
theorem dX3_readAct_99 : decode cX3_readAct 99 = .ok (.istore_n 3, 1) := by decide +kernel
theorem dX3_readAct_100 : decode cX3_readAct 100 = .ok (.iload_n 3, 1) := by decide +kernel
theorem dX3_readAct_101 : decode cX3_readAct 101 = .ok (.ifCond .eq 26, 3) := by decide +kernel
theorem dX3_readAct_104 : decode cX3_readAct 104 = .ok (.aload_n 0, 1) := by decide +kernel
theorem dX3_readAct_105 : decode cX3_readAct 105 = .ok (.invokevirtual 92, 3) := by decide +kernel
theorem dX3_readAct_108 : decode cX3_readAct 108 = .ok (.ifCond .eq 19, 3) := by decide +kernel
theorem dX3_readAct_111 : decode cX3_readAct 111 = .ok (.aload_n 0, 1) := by decide +kernel
theorem dX3_readAct_112 : decode cX3_readAct 112 = .ok (.invokevirtual 95, 3) := by decide +kernel
theorem dX3_readAct_115 : decode cX3_readAct 115 = .ok (.ifCond .eq 12, 3) := by decide +kernel
theorem dX3_readAct_118 : decode cX3_readAct 118 = .ok (.aload_n 0, 1) := by decide +kernel
theorem dX3_readAct_119 : decode cX3_readAct 119 = .ok (.bipush 14, 2) := by decide +kernel
theorem dX3_readAct_121 : decode cX3_readAct 121 = .ok (.invokevirtual 98, 3) := by decide +kernel
theorem dX3_readAct_124 : decode cX3_readAct 124 = .ok (.ifCond .ne 5, 3) := by decide +kernel
theorem dX3_readAct_127 : decode cX3_readAct 127 = .ok (.iconst 0, 1) := by decide +kernel
theorem dX3_readAct_128 : decode cX3_readAct 128 = .ok (.ireturn, 1) := by decide +kernel
theorem dX3_readAct_129 : decode cX3_readAct 129 = .ok (.aload_n 0, 1) := by decide +kernel
theorem dX3_readAct_130 : decode cX3_readAct 130 = .ok (.getfield 12, 3) := by decide +kernel
theorem dX3_readAct_133 : decode cX3_readAct 133 = .ok (.iload_n 1, 1) := by decide +kernel
theorem dX3_readAct_134 : decode cX3_readAct 134 = .ok (.aload_n 0, 1) := by decide +kernel
theorem dX3_readAct_135 : decode cX3_readAct 135 = .ok (.getfield 37, 3) := by decide +kernel
theorem dX3_readAct_138 : decode cX3_readAct 138 = .ok (.aload_n 0, 1) := by decide +kernel
theorem dX3_readAct_139 : decode cX3_readAct 139 = .ok (.getfield 40, 3) := by decide +kernel
theorem dX3_readAct_142 : decode cX3_readAct 142 = .ok (.aload_n 0, 1) := by decide +kernel
theorem dX3_readAct_143 : decode cX3_readAct 143 = .ok (.getfield 43, 3) := by decide +kernel
theorem dX3_readAct_146 : decode cX3_readAct 146 = .ok (.aload_n 0, 1) := by decide +kernel
theorem dX3_readAct_147 : decode cX3_readAct 147 = .ok (.getfield 46, 3) := by decide +kernel
theorem dX3_readAct_150 : decode cX3_readAct 150 = .ok (.aload_n 0, 1) := by decide +kernel
theorem dX3_readAct_151 : decode cX3_readAct 151 = .ok (.getfield 49, 3) := by decide +kernel
theorem dX3_readAct_154 : decode cX3_readAct 154 = .ok (.invokevirtual 102, 3) := by decide +kernel
theorem dX3_readAct_157 : decode cX3_readAct 157 = .ok (.iconst 1, 1) := by decide +kernel
theorem dX3_readAct_158 : decode cX3_readAct 158 = .ok (.ireturn, 1) := by decide +kernel
theorem dX3_readLimitHead_0 : decode cX3_readLimitHead 0 = .ok (.aload_n 0, 1) := by decide +kernel
theorem dX3_readLimitHead_1 : decode cX3_readLimitHead 1 = .ok (.iconst 1, 1) := by decide +kernel
theorem dX3_readLimitHead_2 : decode cX3_readLimitHead 2 = .ok (.bipush 20, 2) := by decide +kernel
theorem dX3_readLimitHead_4 : decode cX3_readLimitHead 4 = .ok (.invokevirtual 106, 3) := by decide +kernel
theorem dX3_readLimitHead_7 : decode cX3_readLimitHead 7 = .ok (.ifCond .ne 5, 3) := by decide +kernel
theorem dX3_readLimitHead_10 : decode cX3_readLimitHead 10 = .ok (.iconst 0, 1) := by decide +kernel
theorem dX3_readLimitHead_11 : decode cX3_readLimitHead 11 = .ok (.ireturn, 1) := by decide +kernel
theorem dX3_readLimitHead_12 : decode cX3_readLimitHead 12 = .ok (.aload_n 0, 1) := by decide +kernel
theorem dX3_readLimitHead_13 : decode cX3_readLimitHead 13 = .ok (.aload_n 0, 1) := by decide +kernel
theorem dX3_readLimitHead_14 : decode cX3_readLimitHead 14 = .ok (.getfield 28, 3) := by decide +kernel
theorem dX3_readLimitHead_17 : decode cX3_readLimitHead 17 = .ok (.putfield 49, 3) := by decide +kernel
theorem dX3_readLimitHead_20 : decode cX3_readLimitHead 20 = .ok (.aload_n 0, 1) := by decide +kernel
theorem dX3_readLimitHead_21 : decode cX3_readLimitHead 21 = .ok (.invokevirtual 89, 3) := by decide +kernel
theorem dX3_readLimitHead_24 : decode cX3_readLimitHead 24 = .ok (.pop, 1) := by decide +kernel
theorem dX3_readLimitHead_25 : decode cX3_readLimitHead 25 = .ok (.iconst 1, 1) := by decide +kernel
theorem dX3_readLimitHead_26 : decode cX3_readLimitHead 26 = .ok (.ireturn, 1) := by decide +kernel
theorem dX3_readKind_0 : decode cX3_readKind 0 = .ok (.aload_n 0, 1) := by decide +kernel
theorem dX3_readKind_1 : decode cX3_readKind 1 = .ok (.invokevirtual 65, 3) := by decide +kernel
theorem dX3_readKind_4 : decode cX3_readKind 4 = .ok (.istore_n 1, 1) := by decide +kernel
theorem dX3_readKind_5 : decode cX3_readKind 5 = .ok (.iload_n 1, 1) := by decide +kernel
theorem dX3_readKind_6 : decode cX3_readKind 6 = .ok (.ifCond .lt 8, 3) := by decide +kernel
theorem dX3_readKind_9 : decode cX3_readKind 9 = .ok (.iload_n 1, 1) := by decide +kernel
theorem dX3_readKind_10 : decode cX3_readKind 10 = .ok (.iconst 4, 1) := by decide +kernel
theorem dX3_readKind_11 : decode cX3_readKind 11 = .ok (.if_icmp .le 5, 3) := by decide +kernel
theorem dX3_readKind_14 : decode cX3_readKind 14 = .ok (.iconst 0, 1) := by decide +kernel
theorem dX3_readKind_15 : decode cX3_readKind 15 = .ok (.ireturn, 1) := by decide +kernel
theorem dX3_readKind_16 : decode cX3_readKind 16 = .ok (.aload_n 0, 1) := by decide +kernel
theorem dX3_readKind_17 : decode cX3_readKind 17 = .ok (.iload_n 1, 1) := by decide +kernel
theorem dX3_readKind_18 : decode cX3_readKind 18 = .ok (.putfield 37, 3) := by decide +kernel
theorem dX3_readKind_21 : decode cX3_readKind 21 = .ok (.aload_n 0, 1) := by decide +kernel
theorem dX3_readKind_22 : decode cX3_readKind 22 = .ok (.dup, 1) := by decide +kernel
theorem dX3_readKind_23 : decode cX3_readKind 23 = .ok (.getfield 25, 3) := by decide +kernel
theorem dX3_readKind_26 : decode cX3_readKind 26 = .ok (.iconst 1, 1) := by decide +kernel
theorem dX3_readKind_27 : decode cX3_readKind 27 = .ok (.iadd, 1) := by decide +kernel
theorem dX3_readKind_28 : decode cX3_readKind 28 = .ok (.putfield 25, 3) := by decide +kernel
theorem dX3_readKind_31 : decode cX3_readKind 31 = .ok (.iconst 1, 1) := by decide +kernel
theorem dX3_readKind_32 : decode cX3_readKind 32 = .ok (.ireturn, 1) := by decide +kernel
theorem dX3_readStreet_0 : decode cX3_readStreet 0 = .ok (.aload_n 0, 1) := by decide +kernel
theorem dX3_readStreet_1 : decode cX3_readStreet 1 = .ok (.iconst 5, 1) := by decide +kernel
theorem dX3_readStreet_2 : decode cX3_readStreet 2 = .ok (.invokevirtual 98, 3) := by decide +kernel
theorem dX3_readStreet_5 : decode cX3_readStreet 5 = .ok (.ifCond .ne 5, 3) := by decide +kernel
theorem dX3_readStreet_8 : decode cX3_readStreet 8 = .ok (.iconst 1, 1) := by decide +kernel
theorem dX3_readStreet_9 : decode cX3_readStreet 9 = .ok (.ireturn, 1) := by decide +kernel
theorem dX3_readStreet_10 : decode cX3_readStreet 10 = .ok (.aload_n 0, 1) := by decide +kernel
theorem dX3_readStreet_11 : decode cX3_readStreet 11 = .ok (.aload_n 0, 1) := by decide +kernel
theorem dX3_readStreet_12 : decode cX3_readStreet 12 = .ok (.getfield 55, 3) := by decide +kernel
theorem dX3_readStreet_15 : decode cX3_readStreet 15 = .ok (.aload_n 0, 1) := by decide +kernel
theorem dX3_readStreet_16 : decode cX3_readStreet 16 = .ok (.getfield 25, 3) := by decide +kernel
theorem dX3_readStreet_19 : decode cX3_readStreet 19 = .ok (.invokevirtual 110, 3) := by decide +kernel
theorem dX3_readStreet_22 : decode cX3_readStreet 22 = .ok (.putfield 40, 3) := by decide +kernel
theorem dX3_readStreet_25 : decode cX3_readStreet 25 = .ok (.aload_n 0, 1) := by decide +kernel
theorem dX3_readStreet_26 : decode cX3_readStreet 26 = .ok (.bipush 12, 2) := by decide +kernel
theorem dX3_readStreet_28 : decode cX3_readStreet 28 = .ok (.invokevirtual 98, 3) := by decide +kernel
theorem dX3_readStreet_31 : decode cX3_readStreet 31 = .ok (.ireturn, 1) := by decide +kernel
theorem dX3_readSpan_0 : decode cX3_readSpan 0 = .ok (.aload_n 0, 1) := by decide +kernel
theorem dX3_readSpan_1 : decode cX3_readSpan 1 = .ok (.bipush 6, 2) := by decide +kernel
theorem dX3_readSpan_3 : decode cX3_readSpan 3 = .ok (.invokevirtual 98, 3) := by decide +kernel
theorem dX3_readSpan_6 : decode cX3_readSpan 6 = .ok (.ifCond .ne 5, 3) := by decide +kernel
theorem dX3_readSpan_9 : decode cX3_readSpan 9 = .ok (.iconst 1, 1) := by decide +kernel
theorem dX3_readSpan_10 : decode cX3_readSpan 10 = .ok (.ireturn, 1) := by decide +kernel
theorem dX3_readSpan_11 : decode cX3_readSpan 11 = .ok (.aload_n 0, 1) := by decide +kernel
theorem dX3_readSpan_12 : decode cX3_readSpan 12 = .ok (.iconst 0, 1) := by decide +kernel
theorem dX3_readSpan_13 : decode cX3_readSpan 13 = .ok (.sipush 1440, 3) := by decide +kernel
theorem dX3_readSpan_16 : decode cX3_readSpan 16 = .ok (.invokevirtual 106, 3) := by decide +kernel
theorem dX3_readSpan_19 : decode cX3_readSpan 19 = .ok (.ifCond .ne 5, 3) := by decide +kernel
theorem dX3_readSpan_22 : decode cX3_readSpan 22 = .ok (.iconst 0, 1) := by decide +kernel
theorem dX3_readSpan_23 : decode cX3_readSpan 23 = .ok (.ireturn, 1) := by decide +kernel
theorem dX3_readSpan_24 : decode cX3_readSpan 24 = .ok (.aload_n 0, 1) := by decide +kernel
theorem dX3_readSpan_25 : decode cX3_readSpan 25 = .ok (.aload_n 0, 1) := by decide +kernel
theorem dX3_readSpan_26 : decode cX3_readSpan 26 = .ok (.getfield 28, 3) := by decide +kernel
theorem dX3_readSpan_29 : decode cX3_readSpan 29 = .ok (.putfield 43, 3) := by decide +kernel
theorem dX3_readSpan_32 : decode cX3_readSpan 32 = .ok (.aload_n 0, 1) := by decide +kernel
theorem dX3_readSpan_33 : decode cX3_readSpan 33 = .ok (.bipush 7, 2) := by decide +kernel
theorem dX3_readSpan_35 : decode cX3_readSpan 35 = .ok (.invokevirtual 98, 3) := by decide +kernel
theorem dX3_readSpan_38 : decode cX3_readSpan 38 = .ok (.ifCond .eq 19, 3) := by decide +kernel
theorem dX3_readSpan_41 : decode cX3_readSpan 41 = .ok (.aload_n 0, 1) := by decide +kernel
theorem dX3_readSpan_42 : decode cX3_readSpan 42 = .ok (.aload_n 0, 1) := by decide +kernel
theorem dX3_readSpan_43 : decode cX3_readSpan 43 = .ok (.getfield 43, 3) := by decide +kernel
theorem dX3_readSpan_46 : decode cX3_readSpan 46 = .ok (.iconst 1, 1) := by decide +kernel
theorem dX3_readSpan_47 : decode cX3_readSpan 47 = .ok (.iadd, 1) := by decide +kernel
theorem dX3_readSpan_48 : decode cX3_readSpan 48 = .ok (.sipush 1440, 3) := by decide +kernel
theorem dX3_readSpan_51 : decode cX3_readSpan 51 = .ok (.invokevirtual 106, 3) := by decide +kernel
theorem dX3_readSpan_54 : decode cX3_readSpan 54 = .ok (.ifCond .ne 5, 3) := by decide +kernel
theorem dX3_readSpan_57 : decode cX3_readSpan 57 = .ok (.iconst 0, 1) := by decide +kernel
theorem dX3_readSpan_58 : decode cX3_readSpan 58 = .ok (.ireturn, 1) := by decide +kernel
theorem dX3_readSpan_59 : decode cX3_readSpan 59 = .ok (.aload_n 0, 1) := by decide +kernel
theorem dX3_readSpan_60 : decode cX3_readSpan 60 = .ok (.aload_n 0, 1) := by decide +kernel
theorem dX3_readSpan_61 : decode cX3_readSpan 61 = .ok (.getfield 28, 3) := by decide +kernel
theorem dX3_readSpan_64 : decode cX3_readSpan 64 = .ok (.putfield 46, 3) := by decide +kernel
theorem dX3_readSpan_67 : decode cX3_readSpan 67 = .ok (.iconst 1, 1) := by decide +kernel
theorem dX3_readSpan_68 : decode cX3_readSpan 68 = .ok (.ireturn, 1) := by decide +kernel
theorem dX3_readNumber_0 : decode cX3_readNumber 0 = .ok (.aload_n 0, 1) := by decide +kernel
theorem dX3_readNumber_1 : decode cX3_readNumber 1 = .ok (.invokevirtual 65, 3) := by decide +kernel
theorem dX3_readNumber_4 : decode cX3_readNumber 4 = .ok (.bipush 13, 2) := by decide +kernel
theorem dX3_readNumber_6 : decode cX3_readNumber 6 = .ok (.if_icmp .eq 5, 3) := by decide +kernel
theorem dX3_readNumber_9 : decode cX3_readNumber 9 = .ok (.iconst 0, 1) := by decide +kernel
theorem dX3_readNumber_10 : decode cX3_readNumber 10 = .ok (.ireturn, 1) := by decide +kernel
theorem dX3_readNumber_11 : decode cX3_readNumber 11 = .ok (.aload_n 0, 1) := by decide +kernel
theorem dX3_readNumber_12 : decode cX3_readNumber 12 = .ok (.aload_n 0, 1) := by decide +kernel
theorem dX3_readNumber_13 : decode cX3_readNumber 13 = .ok (.getfield 55, 3) := by decide +kernel
theorem dX3_readNumber_16 : decode cX3_readNumber 16 = .ok (.aload_n 0, 1) := by decide +kernel
theorem dX3_readNumber_17 : decode cX3_readNumber 17 = .ok (.getfield 25, 3) := by decide +kernel
theorem dX3_readNumber_20 : decode cX3_readNumber 20 = .ok (.invokevirtual 110, 3) := by decide +kernel
theorem dX3_readNumber_23 : decode cX3_readNumber 23 = .ok (.putfield 28, 3) := by decide +kernel
theorem dX3_readNumber_26 : decode cX3_readNumber 26 = .ok (.aload_n 0, 1) := by decide +kernel
theorem dX3_readNumber_27 : decode cX3_readNumber 27 = .ok (.aload_n 0, 1) := by decide +kernel
theorem dX3_readNumber_28 : decode cX3_readNumber 28 = .ok (.getfield 28, 3) := by decide +kernel
theorem dX3_readNumber_31 : decode cX3_readNumber 31 = .ok (.iload_n 1, 1) := by decide +kernel
theorem dX3_readNumber_32 : decode cX3_readNumber 32 = .ok (.if_icmp .lt 15, 3) := by decide +kernel
theorem dX3_readNumber_35 : decode cX3_readNumber 35 = .ok (.aload_n 0, 1) := by decide +kernel
theorem dX3_readNumber_36 : decode cX3_readNumber 36 = .ok (.getfield 28, 3) := by decide +kernel
theorem dX3_readNumber_39 : decode cX3_readNumber 39 = .ok (.iload_n 2, 1) := by decide +kernel
theorem dX3_readNumber_40 : decode cX3_readNumber 40 = .ok (.if_icmp .gt 7, 3) := by decide +kernel
theorem dX3_readNumber_43 : decode cX3_readNumber 43 = .ok (.iconst 1, 1) := by decide +kernel
theorem dX3_readNumber_44 : decode cX3_readNumber 44 = .ok (.goto 4, 3) := by decide +kernel
theorem dX3_readNumber_47 : decode cX3_readNumber 47 = .ok (.iconst 0, 1) := by decide +kernel
theorem dX3_readNumber_48 : decode cX3_readNumber 48 = .ok (.putfield 31, 3) := by decide +kernel
theorem dX3_readNumber_51 : decode cX3_readNumber 51 = .ok (.aload_n 0, 1) := by decide +kernel
theorem dX3_readNumber_52 : decode cX3_readNumber 52 = .ok (.getfield 31, 3) := by decide +kernel
theorem dX3_readNumber_55 : decode cX3_readNumber 55 = .ok (.ifCond .eq 13, 3) := by decide +kernel
theorem dX3_readNumber_58 : decode cX3_readNumber 58 = .ok (.aload_n 0, 1) := by decide +kernel
theorem dX3_readNumber_59 : decode cX3_readNumber 59 = .ok (.dup, 1) := by decide +kernel
theorem dX3_readNumber_60 : decode cX3_readNumber 60 = .ok (.getfield 25, 3) := by decide +kernel
theorem dX3_readNumber_63 : decode cX3_readNumber 63 = .ok (.iconst 1, 1) := by decide +kernel
theorem dX3_readNumber_64 : decode cX3_readNumber 64 = .ok (.iadd, 1) := by decide +kernel
theorem dX3_readNumber_65 : decode cX3_readNumber 65 = .ok (.putfield 25, 3) := by decide +kernel
theorem dX3_readNumber_68 : decode cX3_readNumber 68 = .ok (.aload_n 0, 1) := by decide +kernel
theorem dX3_readNumber_69 : decode cX3_readNumber 69 = .ok (.getfield 31, 3) := by decide +kernel
theorem dX3_readNumber_72 : decode cX3_readNumber 72 = .ok (.ireturn, 1) := by decide +kernel
theorem dX3_readOver_0 : decode cX3_readOver 0 = .ok (.aload_n 0, 1) := by decide +kernel
theorem dX3_readOver_1 : decode cX3_readOver 1 = .ok (.invokevirtual 65, 3) := by decide +kernel
theorem dX3_readOver_4 : decode cX3_readOver 4 = .ok (.iload_n 1, 1) := by decide +kernel
theorem dX3_readOver_5 : decode cX3_readOver 5 = .ok (.if_icmp .eq 5, 3) := by decide +kernel
theorem dX3_readOver_8 : decode cX3_readOver 8 = .ok (.iconst 0, 1) := by decide +kernel
theorem dX3_readOver_9 : decode cX3_readOver 9 = .ok (.ireturn, 1) := by decide +kernel
theorem dX3_readOver_10 : decode cX3_readOver 10 = .ok (.aload_n 0, 1) := by decide +kernel
theorem dX3_readOver_11 : decode cX3_readOver 11 = .ok (.dup, 1) := by decide +kernel
theorem dX3_readOver_12 : decode cX3_readOver 12 = .ok (.getfield 25, 3) := by decide +kernel
theorem dX3_readOver_15 : decode cX3_readOver 15 = .ok (.iconst 1, 1) := by decide +kernel
theorem dX3_readOver_16 : decode cX3_readOver 16 = .ok (.iadd, 1) := by decide +kernel
theorem dX3_readOver_17 : decode cX3_readOver 17 = .ok (.putfield 25, 3) := by decide +kernel
theorem dX3_readOver_20 : decode cX3_readOver 20 = .ok (.iconst 1, 1) := by decide +kernel
theorem dX3_readOver_21 : decode cX3_readOver 21 = .ok (.ireturn, 1) := by decide +kernel
